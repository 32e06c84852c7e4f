/** Promise 17: octet. */
public final class Promise17OctetTest extends Cases {
    public static void main(String[] args) {
        run(Promise17OctetTest.class);
    }

    static void theFirstAndTheLastByte() {
        State file = Start.file("200 1 2 250");
        answers(file, 200, x -> x.octet(0));
        answers(file, 250, x -> x.octet(3));
        answers(file, -1, x -> x.octet(4));
        answers(file, -1, x -> x.octet(-1));
    }

    static void theOnlyByte() {
        answers(Start.file("0"), 0, x -> x.octet(0));
        answers(Start.file("0"), -1, x -> x.octet(1));
    }

    static void eachByteIsAnsweredAsItIs() {
        Counted x = new Counted();
        for (int octet = 0; octet < 256; octet++) {
            x.alter(octet, octet);
        }
        for (int octet = 0; octet < 255; octet++) {
            due(octet, x.octet(octet));
        }
        answers(y -> y.alter(0, 255), 255, y -> y.octet(0));
        answers(y -> y.alter(0, 128), 128, y -> y.octet(0));
    }

    static void placesWithoutAByteAreMinusOne() {
        for (int place : outside(0)) {
            answers(Start.NEW, -1, x -> x.octet(place));
            answers(Start.DOCUMENT, -1, x -> x.octet(place));
        }
        for (int place : outside(5)) {
            answers(Start.SMALL, -1, x -> x.octet(place));
        }
        for (int place : outside(6000)) {
            answers(Start.FULL, -1, x -> x.octet(place));
        }
    }

    static void bytesThatWereCutAreGone() {
        State cut = Start.SMALL.then(x -> x.cut(2));
        answers(cut, 83, x -> x.octet(1));
        answers(cut, -1, x -> x.octet(2));
        answers(cut, -1, x -> x.octet(4));
    }

    static void nothingChanges() {
        for (int place : new int[] {LEAST, -1, 0, 4, 5, MOST}) {
            same("all after octet", Look.all(Start.SMALL), Look.all(Start.SMALL.then(x -> x.octet(place))));
        }
    }
}
