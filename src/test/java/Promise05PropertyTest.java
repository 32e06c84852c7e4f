/** Promise 5: property, and the values that "Terms" gives each property. */
public final class Promise05PropertyTest extends Cases {
    public static void main(String[] args) {
        run(Promise05PropertyTest.class);
    }

    /** Each property of the last style and the last set of a document that has 16 and 24, and of the first ones. */
    private interface Each {
        void look(int of, int k, int property, int most);
    }

    private static final State MANY = Start.styles(16).then(Start.sets(24));

    private static void each(Each look) {
        for (int p = 0; p < 24; p++) {
            look.look(0, 0, p, mostOf(p));
            look.look(0, 15, p, mostOf(p));
            look.look(1, 0, p, mostOf(p));
            look.look(1, 23, p, mostOf(p));
        }
    }

    private static void taken(int of, int k, int p, int value) {
        Counted x = at(MANY);
        due(true, x.property(of, k, p, value));
        due(value, x.value(of, k, p));
    }

    static void theLeastValueIsTaken() {
        each((of, k, p, most) -> taken(of, k, p, 0));
    }

    static void theMostValueIsTaken() {
        each((of, k, p, most) -> taken(of, k, p, most));
    }

    static void oneIsTakenByAll() {
        each((of, k, p, most) -> taken(of, k, p, 1));
    }

    static void aboveTheMostIsRefusedWhereNoneIs() {
        each((of, k, p, most) -> refused(MANY.then(y -> y.property(of, k, p, -1)), false,
                x -> x.property(of, k, p, most + 1)));
    }

    static void aboveTheMostIsRefusedWhereOneIs() {
        each((of, k, p, most) -> refused(MANY.then(y -> y.property(of, k, p, most)), false,
                x -> x.property(of, k, p, most + 1)));
    }

    static void minusOneTakesItAway() {
        each((of, k, p, most) -> {
            Counted x = at(MANY.then(y -> y.property(of, k, p, most)));
            due(true, x.property(of, k, p, -1));
            due(-1, x.value(of, k, p));
        });
    }

    static void minusOneIsTakenWhereNoneIs() {
        each((of, k, p, most) -> {
            State gone = MANY.then(y -> y.property(of, k, p, -1));
            answers(gone, true, x -> x.property(of, k, p, -1));
            answers(gone.then(x -> x.property(of, k, p, -1)), -1, x -> x.value(of, k, p));
        });
    }

    static void belowMinusOneIsRefused() {
        each((of, k, p, most) -> refused(MANY.then(y -> y.property(of, k, p, 1)), false,
                x -> x.property(of, k, p, -2)));
    }

    static void valuesAtTheEndsOfIntAreRefused() {
        for (int p : new int[] {0, 7, 8, 15, 16, 23}) {
            for (int value : new int[] {LEAST, LEAST + 1, -65536, -256, 65536, 65537, 16777216, MOST - 1, MOST}) {
                refused(Start.SMALL, false, x -> x.property(0, 1, p, value));
                refused(Start.SMALL, false, x -> x.property(1, 1, p, value));
            }
        }
    }

    static void theMostChangesFromProperty7To8() {
        for (int of = 0; of <= 1; of++) {
            int what = of;
            refused(Start.SMALL, false, x -> x.property(what, 0, 7, 2));
            refused(Start.SMALL, false, x -> x.property(what, 0, 7, 255));
            answers(Start.SMALL, true, x -> x.property(what, 0, 8, 2));
            answers(Start.SMALL, true, x -> x.property(what, 0, 8, 255));
        }
    }

    static void theMostChangesFromProperty15To16() {
        for (int of = 0; of <= 1; of++) {
            int what = of;
            refused(Start.SMALL, false, x -> x.property(what, 0, 15, 256));
            refused(Start.SMALL, false, x -> x.property(what, 0, 15, 65535));
            answers(Start.SMALL, true, x -> x.property(what, 0, 16, 256));
            answers(Start.SMALL, true, x -> x.property(what, 0, 16, 65535));
        }
    }

    static void propertiesBeyond0And23AreRefused() {
        for (int p : outside(24)) {
            refused(Start.SMALL, false, x -> x.property(0, 0, p, 0));
            refused(Start.SMALL, false, x -> x.property(0, 1, p, 1));
            refused(Start.SMALL, false, x -> x.property(1, 0, p, 0));
            refused(Start.SMALL, false, x -> x.property(1, 1, p, -1));
        }
    }

    static void stylesThatAreNotThereAreRefused() {
        for (int k : outside(2)) {
            refused(Start.SMALL, false, x -> x.property(0, k, 0, 0));
        }
        for (int k : outside(16)) {
            refused(MANY, false, x -> x.property(0, k, 0, 0));
        }
        refused(Start.sets(1), false, x -> x.property(0, 0, 0, 0));
    }

    static void setsThatAreNotThereAreRefused() {
        for (int k : outside(2)) {
            refused(Start.SMALL, false, x -> x.property(1, k, 0, 0));
        }
        for (int k : outside(24)) {
            refused(MANY, false, x -> x.property(1, k, 0, 0));
        }
        refused(Start.styles(1), false, x -> x.property(1, 0, 0, 0));
    }

    static void stylesAndSetsHaveCountsOfTheirOwn() {
        State oneAndThree = Start.styles(1).then(Start.sets(3));
        answers(oneAndThree, true, x -> x.property(1, 2, 0, 0));
        refused(oneAndThree, false, x -> x.property(0, 1, 0, 0));
        State threeAndOne = Start.styles(3).then(Start.sets(1));
        answers(threeAndOne, true, x -> x.property(0, 2, 0, 0));
        refused(threeAndOne, false, x -> x.property(1, 1, 0, 0));
    }

    static void ofBeyond0And1IsRefused() {
        for (int of : outside(2)) {
            refused(Start.SMALL, false, x -> x.property(of, 0, 0, 0));
            refused(Start.SMALL, false, x -> x.property(of, 1, 16, -1));
        }
    }

    static void takingAwayIsRefusedWhereNoneCanBe() {
        refused(Start.SMALL, false, x -> x.property(0, 2, 0, -1));
        refused(Start.SMALL, false, x -> x.property(1, -1, 0, -1));
        refused(Start.SMALL, false, x -> x.property(0, 0, 24, -1));
        refused(Start.SMALL, false, x -> x.property(1, 0, -1, -1));
        refused(Start.SMALL, false, x -> x.property(2, 0, 0, -1));
    }

    static void allOthersStay() {
        State all = Start.SMALL.then(x -> x.style(-1)).then(x -> x.set());
        for (int of = 0; of <= 1; of++) {
            for (int p : new int[] {0, 7, 8, 15, 16, 22, 23}) {
                int what = of;
                State cameAndWent = all.then(x -> x.property(what, 1, p, 1)).then(x -> x.property(what, 1, p, -1));
                State without = all.then(x -> x.property(what, 1, p, -1));
                same("all but the property", Look.all(without), Look.all(cameAndWent));
            }
        }
    }

    static void oneWithAll24() {
        for (int of = 0; of <= 1; of++) {
            Counted x = at(Start.SMALL);
            for (int p = 0; p < 24; p++) {
                due(true, x.property(of, 0, p, mostOf(p)));
            }
            for (int p = 0; p < 24; p++) {
                due(mostOf(p), x.value(of, 0, p));
                due(of == 0 && p == 16 ? 720 : of == 1 && p == 3 ? 1 : -1, x.value(of, 1, p));
                due(-1, x.value(1 - of, 0, p));
            }
        }
    }
}
