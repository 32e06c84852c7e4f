/** Promise 3: style. */
public final class Promise03StyleTest extends Cases {
    public static void main(String[] args) {
        run(Promise03StyleTest.class);
    }

    static void numbersRiseFrom0() {
        Counted x = new Counted();
        for (int i = 0; i < 16; i++) {
            due(i, x.style(-1));
            due(i + 1, x.count(0));
        }
    }

    static void the16thIsTaken() {
        answers(Start.styles(15), 15, x -> x.style(-1));
        answers(Start.styles(15), 15, x -> x.style(14));
    }

    static void the17thIsRefused() {
        refused(Start.styles(16), -1, x -> x.style(-1));
        refused(Start.styles(16), -1, x -> x.style(0));
        refused(Start.styles(16), -1, x -> x.style(15));
        refused(Start.styles(16), -1, x -> x.style(16));
        refused(Start.FULL, -1, x -> x.style(-1));
    }

    static void the17thIsRefusedAgainAndAgain() {
        refused(Start.styles(16).then(y -> y.style(-1)), -1, x -> x.style(-1));
    }

    static void baseNoneIsTaken() {
        answers(Start.NEW, 0, x -> x.style(-1));
        answers(Start.styles(3).then(x -> x.style(-1)), -1, x -> x.base(3));
    }

    static void baseBelowNoneIsRefused() {
        refused(Start.NEW, -1, x -> x.style(-2));
        refused(Start.SMALL, -1, x -> x.style(-2));
    }

    static void theFirstStyleIsABase() {
        answers(Start.styles(15), 15, x -> x.style(0));
        answers(Start.styles(15).then(x -> x.style(0)), 0, x -> x.base(15));
    }

    static void theLastStyleIsABase() {
        for (int n = 1; n < 16; n++) {
            int last = n - 1;
            answers(Start.styles(n), n, x -> x.style(last));
            answers(Start.styles(n).then(x -> x.style(last)), last, x -> x.base(last + 1));
        }
    }

    static void theNewStyleIsNoBaseOfItself() {
        for (int n = 0; n < 16; n++) {
            int own = n;
            refused(Start.styles(n), -1, x -> x.style(own));
        }
    }

    static void basesBeyondTheStylesAreRefused() {
        for (int base : outsideAndNotNone(0)) {
            refused(Start.NEW, -1, x -> x.style(base));
        }
        for (int base : outsideAndNotNone(2)) {
            refused(Start.SMALL, -1, x -> x.style(base));
        }
        for (int base : outsideAndNotNone(15)) {
            refused(Start.styles(15), -1, x -> x.style(base));
        }
    }

    static void aSetIsNoBase() {
        refused(Start.sets(3), -1, x -> x.style(2));
        refused(Start.styles(1).then(Start.sets(3)), -1, x -> x.style(1));
    }

    static void itHasNoProperties() {
        Counted x = new Counted();
        for (int i = 0; i < 16; i++) {
            x.style(i - 1);
            for (int p = 0; p < 24; p++) {
                due(-1, x.value(0, i, p));
            }
        }
    }

    static void itTakesNothingFromItsBase() {
        Counted x = at(Start.SMALL);
        due(2, x.style(1));
        for (int p = 0; p < 24; p++) {
            due(-1, x.value(0, 2, p));
        }
    }

    static void theOthersStay() {
        Counted x = at(Start.SMALL);
        x.style(-1);
        due(-1, x.base(0));
        due(0, x.base(1));
        due(720, x.value(0, 1, 16));
        due(2, x.count(1));
    }

    static void the16thIsTakenBehindStylesThatWereOpened() {
        State fifteen = Start.file("77 83 1 15 " + "0 1 3 1 ".repeat(15) + "0").then(x -> x.open());
        answers(fifteen, 15, x -> x.style(14));
        State sixteen = fifteen.then(x -> x.style(14));
        refused(sixteen, -1, x -> x.style(0));
        answers(sixteen, 14, x -> x.base(15));
        answers(sixteen, -1, x -> x.value(0, 15, 3));
        answers(sixteen, 1, x -> x.value(0, 14, 3));
    }

    static void the17thIsRefusedBehindStylesThatWereOpened() {
        State sixteen = Start.file("77 83 1 16 " + "0 0 ".repeat(16) + "0").then(x -> x.open());
        answers(sixteen, 16, x -> x.count(0));
        refused(sixteen, -1, x -> x.style(-1));
    }
}
