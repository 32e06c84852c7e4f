/** Promise 9: count. */
public final class Promise09CountTest extends Cases {
    public static void main(String[] args) {
        run(Promise09CountTest.class);
    }

    private static void counts(State state, int... counts) {
        Counted x = at(state);
        for (int what = 0; what < counts.length; what++) {
            due(counts[what], x.count(what));
        }
    }

    static void ofANewObject() {
        counts(Start.NEW, 0, 0, 0, 0, 0, 0);
    }

    static void ofASmallDocument() {
        counts(Start.SMALL, 2, 2, 2, 3, 10, 5);
    }

    static void ofAFullDocument() {
        counts(Start.FULL.then(x -> x.cut(9)), 16, 24, 24, 40, 512, 9);
    }

    static void eachCountsForItself() {
        counts(x -> x.style(-1), 1, 0, 0, 0, 0, 0);
        counts(x -> x.set(), 0, 1, 0, 0, 0, 0);
        counts(x -> x.mark(0, 0, -1), 0, 0, 1, 0, 0, 0);
        counts(Start.PLAIN.then(x -> x.end(0, 0, -1, 300)), 0, 1, 1, 1, 300, 0);
        counts(x -> x.alter(0, 0), 0, 0, 0, 0, 0, 1);
    }

    static void whatBeyond0And5IsNone() {
        for (int what : outside(6)) {
            answers(Start.NEW, -1, x -> x.count(what));
            answers(Start.SMALL, -1, x -> x.count(what));
            answers(Start.FULL, -1, x -> x.count(what));
        }
    }

    static void nothingChanges() {
        for (int i = -1; i <= 6; i++) {
            int what = i;
            same("all after count", Look.all(Start.SMALL), Look.all(Start.SMALL.then(x -> x.count(what))));
        }
    }
}
