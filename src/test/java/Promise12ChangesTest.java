/** Promise 12: changes. */
public final class Promise12ChangesTest extends Cases {
    public static void main(String[] args) {
        run(Promise12ChangesTest.class);
    }

    private static void changes(State state, int mark, int... parts) {
        Counted x = at(state);
        for (int what = 0; what < parts.length; what++) {
            due(parts[what], x.changes(mark, what));
        }
    }

    static void theFirstAndTheLastMark() {
        changes(Start.SMALL, 0, 0, 0, -1, -2);
        changes(Start.SMALL, 1, 7, 9, 1, -2);
        changes(Start.FULL, 0, 0, 255, 0, -2);
        changes(Start.FULL, 23, 23, 232, 23, -2);
    }

    static void theMostIsAnsweredAsItIs() {
        changes(Start.SMALL.then(x -> x.mark(255, 255, 1)), 2, 255, 255, 1, -2);
    }

    static void oldNoneIsMinusOneAndSet0IsNot() {
        changes(Start.SMALL.then(x -> x.mark(1, 2, -1)), 2, 1, 2, -1, -2);
        changes(Start.SMALL.then(x -> x.mark(1, 2, 0)), 2, 1, 2, 0, -2);
    }

    static void marksThatAreNotThereAreMinusTwo() {
        for (int what = 0; what <= 2; what++) {
            int part = what;
            for (int mark : outside(0)) {
                answers(Start.sets(3), -2, x -> x.changes(mark, part));
            }
            for (int mark : outside(2)) {
                answers(Start.SMALL, -2, x -> x.changes(mark, part));
            }
            for (int mark : outside(24)) {
                answers(Start.FULL, -2, x -> x.changes(mark, part));
            }
        }
    }

    static void whatBeyond0And2IsMinusTwo() {
        for (int what : outside(3)) {
            answers(Start.SMALL, -2, x -> x.changes(0, what));
            answers(Start.SMALL, -2, x -> x.changes(1, what));
            answers(Start.FULL, -2, x -> x.changes(23, what));
        }
    }

    static void nothingChanges() {
        for (int i = -1; i <= 3; i++) {
            int n = i;
            same("all after changes", Look.all(Start.SMALL), Look.all(Start.SMALL.then(x -> x.changes(n, n))));
        }
    }
}
