/** Promise 6: mark. */
public final class Promise06MarkTest extends Cases {
    private static final State MANY_SETS = Start.sets(24);

    public static void main(String[] args) {
        run(Promise06MarkTest.class);
    }

    private static void taken(State state, int number, int inserted, int erased, int old) {
        Counted x = at(state);
        due(number, x.mark(inserted, erased, old));
        due(inserted, x.changes(number, 0));
        due(erased, x.changes(number, 1));
        due(old, x.changes(number, 2));
        due(number + 1, x.count(2));
    }

    static void numbersRiseFrom0() {
        Counted x = new Counted();
        for (int i = 0; i < 24; i++) {
            due(i, x.mark(3, 4, -1));
            due(i + 1, x.count(2));
        }
    }

    static void the24thIsTaken() {
        taken(MANY_SETS.then(Start.marks(23)), 23, 255, 254, 23);
    }

    static void the25thIsRefused() {
        refused(MANY_SETS.then(Start.marks(24)), -1, x -> x.mark(0, 0, -1));
        refused(MANY_SETS.then(Start.marks(24)), -1, x -> x.mark(0, 255, 0));
        refused(Start.FULL, -1, x -> x.mark(1, 2, 3));
    }

    static void the25thIsRefusedAgainAndAgain() {
        refused(Start.FULL.then(y -> y.mark(1, 2, 3)), -1, x -> x.mark(1, 2, 3));
    }

    static void inserted0IsTaken() {
        taken(Start.SMALL, 2, 0, 9, -1);
    }

    static void inserted255IsTaken() {
        taken(Start.SMALL, 2, 255, 9, -1);
    }

    static void insertedBeyond0And255IsRefused() {
        for (int inserted : outside(256)) {
            refused(Start.SMALL, -1, x -> x.mark(inserted, 0, -1));
            refused(Start.SMALL, -1, x -> x.mark(inserted, 255, 1));
        }
    }

    static void erased0IsTaken() {
        taken(Start.SMALL, 2, 9, 0, -1);
    }

    static void erased255IsTaken() {
        taken(Start.SMALL, 2, 9, 255, -1);
    }

    static void erasedBeyond0And255IsRefused() {
        for (int erased : outside(256)) {
            refused(Start.SMALL, -1, x -> x.mark(0, erased, -1));
            refused(Start.SMALL, -1, x -> x.mark(255, erased, 1));
        }
    }

    static void oldNoneIsTaken() {
        taken(Start.NEW, 0, 0, 0, -1);
        taken(MANY_SETS, 0, 0, 0, -1);
    }

    static void oldBelowNoneIsRefused() {
        refused(Start.NEW, -1, x -> x.mark(0, 0, -2));
        refused(Start.SMALL, -1, x -> x.mark(0, 0, -2));
    }

    static void theFirstSetIsAnOldOne() {
        taken(Start.sets(1), 0, 1, 2, 0);
        taken(MANY_SETS, 0, 1, 2, 0);
    }

    static void theLastSetIsAnOldOne() {
        taken(Start.SMALL, 2, 1, 2, 1);
        taken(MANY_SETS, 0, 1, 2, 23);
    }

    static void oldSetsThatAreNotThereAreRefused() {
        for (int old : outsideAndNotNone(0)) {
            refused(Start.styles(3), -1, x -> x.mark(0, 0, old));
        }
        for (int old : outsideAndNotNone(2)) {
            refused(Start.SMALL, -1, x -> x.mark(0, 0, old));
        }
        for (int old : outsideAndNotNone(24)) {
            refused(MANY_SETS, -1, x -> x.mark(0, 0, old));
        }
    }

    static void oneWithTheSameIsOneMore() {
        taken(Start.SMALL, 2, 7, 9, 1);
    }

    static void theOthersStay() {
        Counted x = at(Start.SMALL);
        x.mark(1, 2, -1);
        due(0, x.changes(0, 0));
        due(0, x.changes(0, 1));
        due(-1, x.changes(0, 2));
        due(7, x.changes(1, 0));
        due(9, x.changes(1, 1));
        due(1, x.changes(1, 2));
        due(2, x.count(1));
        due(3, x.count(3));
    }

    /** A file whose n marks stand in n runs. */
    private static State opened(int n) {
        StringBuilder runs = new StringBuilder("0 0 0 0 0 9 0 1 97 ");
        for (int i = 1; i < n; i++) {
            runs.append("0 1 0 ").append(i).append(" 9 0 1 97 ");
        }
        return Start.file("77 83 1 0 " + n + " " + runs).then(x -> x.open());
    }

    static void the24thIsTakenBehindMarksThatWereOpened() {
        taken(opened(23), 23, 5, 6, 0);
        answers(opened(23).then(x -> x.mark(5, 6, 0)), 22, x -> x.changes(22, 0));
    }

    static void the25thIsRefusedBehindMarksThatWereOpened() {
        answers(opened(24), 24, x -> x.count(2));
        refused(opened(24), -1, x -> x.mark(5, 6, 0));
    }
}
