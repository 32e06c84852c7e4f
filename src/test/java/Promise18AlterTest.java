/** Promise 18: alter. */
public final class Promise18AlterTest extends Cases {
    public static void main(String[] args) {
        run(Promise18AlterTest.class);
    }

    /** A file of as many bytes; for those that no run of 512 calls makes, too. */
    private static State bytes(int n) {
        return x -> {
            x.goBeyond();
            for (int i = 0; i < n; i++) {
                x.alter(i, i * 7);
            }
        };
    }

    private static void altered(State state, int place, int value, int octet, int count) {
        Counted x = at(state);
        due(true, x.alter(place, value));
        due(octet, x.octet(place));
        due(count, x.count(5));
        due(-1, x.octet(count));
    }

    static void theFirstByteOfNone() {
        altered(Start.NEW, 0, 7, 7, 1);
        refused(Start.NEW, false, x -> x.alter(1, 7));
        refused(Start.NEW, false, x -> x.alter(-1, 7));
    }

    static void theFirstAndTheLastByte() {
        altered(Start.SMALL, 0, 9, 9, 5);
        altered(Start.SMALL, 4, 9, 9, 5);
    }

    static void oneMoreBehindTheLast() {
        altered(Start.SMALL, 5, 9, 9, 6);
    }

    static void twoBehindTheLastIsRefused() {
        refused(Start.SMALL, false, x -> x.alter(6, 9));
    }

    static void oneAheadOfTheFirstIsRefused() {
        refused(Start.SMALL, false, x -> x.alter(-1, 9));
    }

    static void placesBeyondTheFileAreRefused() {
        for (int place : outside(6)) {
            refused(Start.SMALL, false, x -> x.alter(place, 9));
        }
        for (int place : outside(1)) {
            refused(Start.NEW, false, x -> x.alter(place, 9));
        }
    }

    static void valuesFrom0To255StayAsTheyAre() {
        for (int value = 0; value <= 255; value++) {
            altered(Start.SMALL, 2, value, value, 5);
            altered(Start.SMALL, 5, value, value, 6);
        }
    }

    static void valuesAbove255AreTakenMod256() {
        int[] values = {256, 257, 511, 512, 65535, 65536, 65537, MOST - 1, MOST};
        int[] octets = {0, 1, 255, 0, 255, 0, 1, 254, 255};
        for (int i = 0; i < values.length; i++) {
            altered(Start.SMALL, 2, values[i], octets[i], 5);
            altered(Start.SMALL, 5, values[i], octets[i], 6);
        }
    }

    static void valuesBelow0AreTakenMod256() {
        int[] values = {-1, -2, -127, -128, -129, -255, -256, -257, -65536, LEAST + 1, LEAST};
        int[] octets = {255, 254, 129, 128, 127, 1, 0, 255, 0, 1, 0};
        for (int i = 0; i < values.length; i++) {
            altered(Start.SMALL, 2, values[i], octets[i], 5);
            altered(Start.SMALL, 5, values[i], octets[i], 6);
        }
    }

    static void theOtherBytesAndTheDocumentStay() {
        State altered = Start.SMALL.then(x -> x.alter(2, 200)).then(x -> x.alter(2, 1));
        same("all", Look.all(Start.SMALL), Look.all(altered));
        State longer = Start.SMALL.then(x -> x.alter(5, 200)).then(x -> x.cut(5));
        same("all", Look.all(Start.SMALL), Look.all(longer));
        same("the document", Look.document(Start.SMALL), Look.document(Start.SMALL.then(x -> x.alter(5, 7))));
    }

    static void behindACutOneMoreComesAtTheNewEnd() {
        State cut = Start.SMALL.then(x -> x.cut(2));
        refused(cut, false, x -> x.alter(3, 9));
        refused(cut, false, x -> x.alter(4, 9));
        refused(cut, false, x -> x.alter(5, 9));
        altered(cut, 2, 9, 9, 3);
        altered(cut, 1, 9, 9, 2);
    }

    static void oneMoreBehindASavedFile() {
        int n = at(Start.FULL).count(5);
        altered(Start.FULL, n, 300, 44, n + 1);
        altered(Start.FULL, n - 1, 300, 44, n);
        refused(Start.FULL, false, x -> x.alter(n + 1, 300));
    }

    // Files of 6000 bytes lie beyond the 512 calls that are promised; their edge is looked at all the same.

    static void the6000thByteIsTaken() {
        altered(bytes(5999), 5999, -3, 253, 6000);
    }

    static void the6001stByteIsRefused() {
        refused(bytes(6000), false, x -> x.alter(6000, 9));
        refused(bytes(6000), false, x -> x.alter(6001, 9));
        refused(bytes(6000), false, x -> x.alter(MOST, 9));
        refused(bytes(6000), false, x -> x.alter(-1, 9));
    }

    static void theBytesOfAFullFileCanBeAltered() {
        altered(bytes(6000), 0, 9, 9, 6000);
        altered(bytes(6000), 5999, 9, 9, 6000);
    }

    static void aFullFileThatIsCutTakesOneMore() {
        altered(bytes(6000).then(x -> x.cut(5999)), 5999, 9, 9, 6000);
    }

    static void aFullFileIsSavedAndOpenedAsAnyOther() {
        answers(bytes(6000), 5, x -> x.save());
        refused(bytes(6000), 1, x -> x.open());
        State behind = Start.FULL.then(x -> {
            x.goBeyond();
            for (int i = x.count(5); i < 6000; i++) {
                x.alter(i, 0);
            }
        });
        refused(behind, at(Start.FULL).count(5) + 1, x -> x.open());
    }
}
