/** Promise 4: set. */
public final class Promise04SetTest extends Cases {
    public static void main(String[] args) {
        run(Promise04SetTest.class);
    }

    static void numbersRiseFrom0() {
        Counted x = new Counted();
        for (int i = 0; i < 24; i++) {
            due(i, x.set());
            due(i + 1, x.count(1));
        }
    }

    static void the24thIsTaken() {
        answers(Start.sets(23), 23, x -> x.set());
    }

    static void the25thIsRefused() {
        refused(Start.sets(24), -1, x -> x.set());
        refused(Start.FULL, -1, x -> x.set());
    }

    static void the25thIsRefusedAgainAndAgain() {
        refused(Start.sets(24).then(y -> y.set()), -1, x -> x.set());
    }

    static void itHasNoProperties() {
        for (int half = 0; half < 2; half++) {
            Counted x = new Counted();
            for (int i = 0; i < 24; i++) {
                x.set();
                for (int p = 12 * half; p < 12 * half + 12; p++) {
                    due(-1, x.value(1, i, p));
                }
            }
        }
    }

    static void theOthersStay() {
        Counted x = at(Start.SMALL);
        due(2, x.set());
        due(1, x.value(1, 1, 3));
        due(-1, x.value(1, 2, 3));
        due(2, x.count(0));
        due(2, x.count(2));
    }

    static void setsAreOneEachEvenIfTheyHaveTheSame() {
        Counted x = new Counted();
        due(0, x.set());
        due(1, x.set());
        due(true, x.property(1, 1, 0, 1));
        due(-1, x.value(1, 0, 0));
    }

    /** A file whose n sets stand in n runs. */
    private static State opened(int n) {
        StringBuilder runs = new StringBuilder("0 0 1 8 0 0 0 0 0 1 97 ");
        for (int i = 1; i < n; i++) {
            runs.append("0 0 1 8 ").append(i).append(" 1 1 97 ");
        }
        return Start.file("77 83 1 0 " + n + " " + runs).then(x -> x.open());
    }

    static void the24thIsTakenBehindSetsThatWereOpened() {
        answers(opened(23), 23, x -> x.set());
        answers(opened(23).then(x -> x.set()), -1, x -> x.value(1, 23, 8));
        answers(opened(23).then(x -> x.set()), 22, x -> x.value(1, 22, 8));
    }

    static void the25thIsRefusedBehindSetsThatWereOpened() {
        answers(opened(24), 24, x -> x.count(1));
        refused(opened(24), -1, x -> x.set());
    }
}
