/** Promise 13: run. */
public final class Promise13RunTest extends Cases {
    public static void main(String[] args) {
        run(Promise13RunTest.class);
    }

    private static void parts(State state, int run, int... parts) {
        Counted x = at(state);
        for (int what = 0; what < parts.length; what++) {
            due(parts[what], x.run(run, what));
        }
    }

    static void aTextRunHasNoStyle() {
        parts(Start.SMALL, 0, 0, 0, 0, -1, 0, 5, -2);
        parts(Start.SMALL, 2, 0, 1, 1, -1, 7, 3, -2);
    }

    static void anEndRunHasAStyleOrNone() {
        parts(Start.SMALL, 1, 1, 0, 0, 1, 5, 2, -2);
        parts(Start.SMALL.then(x -> x.end(1, 0, 0, 4)), 3, 1, 1, 0, 0, 10, 4, -2);
        parts(Start.SMALL.then(x -> x.end(0, 1, -1, 4)), 3, 1, 0, 1, -1, 10, 4, -2);
    }

    static void theFirstRunOfAFullDocument() {
        parts(Start.FULL, 0, 0, 0, 0, -1, 0, 8, -2);
    }

    static void theLastRunsOfAFullDocument() {
        parts(Start.FULL, 37, 0, 13, 13, -1, 296, 8, -2);
        parts(Start.FULL, 38, 1, 23, 23, 15, 304, 207, -2);
        parts(Start.FULL, 39, 0, 0, 0, -1, 511, 1, -2);
        parts(Start.FULL, 40, -2, -2, -2, -2, -2, -2, -2);
    }

    static void oneRunOf512() {
        parts(Start.PLAIN.then(x -> x.end(0, 0, -1, 512)), 0, 1, 0, 0, -1, 0, 512, -2);
    }

    static void runsThatAreNotThereAreMinusTwo() {
        for (int what = 0; what <= 5; what++) {
            int part = what;
            for (int run : outside(0)) {
                answers(Start.PLAIN, -2, x -> x.run(run, part));
            }
            for (int run : outside(3)) {
                answers(Start.SMALL, -2, x -> x.run(run, part));
            }
            for (int run : outside(40)) {
                answers(Start.FULL, -2, x -> x.run(run, part));
            }
        }
    }

    static void whatBeyond0And5IsMinusTwo() {
        for (int what : outside(6)) {
            answers(Start.SMALL, -2, x -> x.run(0, what));
            answers(Start.SMALL, -2, x -> x.run(1, what));
            answers(Start.FULL, -2, x -> x.run(39, what));
        }
    }

    static void nothingChanges() {
        for (int i = -1; i <= 6; i++) {
            int n = i;
            same("all after run", Look.all(Start.SMALL), Look.all(Start.SMALL.then(x -> x.run(n / 2, n))));
        }
    }
}
