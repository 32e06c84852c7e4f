/** Promise 11: value. */
public final class Promise11ValueTest extends Cases {
    public static void main(String[] args) {
        run(Promise11ValueTest.class);
    }

    static void aValueIsAnswered() {
        answers(Start.SMALL, 720, x -> x.value(0, 1, 16));
        answers(Start.SMALL, 1, x -> x.value(1, 1, 3));
    }

    static void value0IsNotNone() {
        for (int p = 0; p < 24; p++) {
            int property = p;
            answers(Start.SMALL.then(x -> x.property(0, 0, property, 0)), 0, x -> x.value(0, 0, property));
            answers(Start.SMALL.then(x -> x.property(1, 0, property, 0)), 0, x -> x.value(1, 0, property));
        }
    }

    static void theMostValueIsAnsweredAsItIs() {
        for (int p = 0; p < 24; p++) {
            int property = p;
            State most = Start.SMALL.then(x -> x.property(0, 1, property, mostOf(property)))
                    .then(x -> x.property(1, 1, property, mostOf(property)));
            answers(most, mostOf(p), x -> x.value(0, 1, property));
            answers(most, mostOf(p), x -> x.value(1, 1, property));
        }
    }

    static void whatIsNotThereIsMinusOne() {
        Counted x = at(Start.SMALL);
        for (int p = 0; p < 24; p++) {
            due(-1, x.value(0, 0, p));
            due(p == 16 ? 720 : -1, x.value(0, 1, p));
            due(-1, x.value(1, 0, p));
            due(p == 3 ? 1 : -1, x.value(1, 1, p));
        }
    }

    static void theLastPropertyOfTheLastOnes() {
        State last = Start.styles(16).then(Start.sets(24)).then(x -> x.property(0, 15, 23, 65535))
                .then(x -> x.property(1, 23, 23, 65534));
        answers(last, 65535, x -> x.value(0, 15, 23));
        answers(last, 65534, x -> x.value(1, 23, 23));
        answers(last, -2, x -> x.value(0, 16, 23));
        answers(last, -2, x -> x.value(1, 24, 23));
        answers(last, -2, x -> x.value(0, 15, 24));
        answers(last, -2, x -> x.value(1, 23, 24));
    }

    static void stylesThatAreNotThereAreMinusTwo() {
        for (int k : outside(0)) {
            answers(Start.sets(3), -2, x -> x.value(0, k, 0));
        }
        for (int k : outside(2)) {
            answers(Start.SMALL, -2, x -> x.value(0, k, 0));
            answers(Start.SMALL, -2, x -> x.value(0, k, 23));
        }
        for (int k : outside(16)) {
            answers(Start.FULL, -2, x -> x.value(0, k, 0));
        }
    }

    static void setsThatAreNotThereAreMinusTwo() {
        for (int k : outside(0)) {
            answers(Start.styles(3), -2, x -> x.value(1, k, 0));
        }
        for (int k : outside(2)) {
            answers(Start.SMALL, -2, x -> x.value(1, k, 0));
            answers(Start.SMALL, -2, x -> x.value(1, k, 23));
        }
        for (int k : outside(24)) {
            answers(Start.FULL, -2, x -> x.value(1, k, 0));
        }
    }

    static void propertiesBeyond0And23AreMinusTwo() {
        for (int p : outside(24)) {
            answers(Start.SMALL, -2, x -> x.value(0, 0, p));
            answers(Start.SMALL, -2, x -> x.value(0, 1, p));
            answers(Start.SMALL, -2, x -> x.value(1, 0, p));
            answers(Start.SMALL, -2, x -> x.value(1, 1, p));
        }
    }

    static void ofBeyond0And1IsMinusTwo() {
        for (int of : outside(2)) {
            answers(Start.SMALL, -2, x -> x.value(of, 0, 0));
            answers(Start.FULL, -2, x -> x.value(of, 0, 0));
        }
    }

    static void nothingChanges() {
        for (int i = -1; i <= 2; i++) {
            int k = i;
            same("all after value", Look.all(Start.SMALL), Look.all(Start.SMALL.then(x -> x.value(k, k, 24))));
            same("all after value", Look.all(Start.SMALL), Look.all(Start.SMALL.then(x -> x.value(1, k, 3))));
        }
    }
}
