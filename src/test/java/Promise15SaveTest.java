/** Promise 15: save, and the way a file is written that "Terms" tells. */
public final class Promise15SaveTest extends Cases {
    private static final String HEAD = "77 83 1 ";
    /** The file of PLAIN with one run, up to how many characters it has. */
    private static final String TEXT = HEAD + "0 1 0 0 0 0 0 0 0 ";
    private static final String ENDS = HEAD + "0 1 1 0 0 0 0 0 0 0 ";

    public static void main(String[] args) {
        run(Promise15SaveTest.class);
    }

    /** The bytes of a document that is saved; the document stays, and is saved again as before. */
    private static void saved(State state, String bytes) {
        State after = state.then(x -> x.save());
        int n = bytes.trim().split(" +").length;
        answers(state, n, x -> x.save());
        answers(after, n, x -> x.count(5));
        due("the file", bytes.trim().replaceAll(" +", " "), bytes(after));
        same("the document after save", Look.document(state), Look.document(after));
        same("all after the second save", Look.all(after), Look.all(after.then(x -> x.save())));
    }

    private static State property(int of, int k, int property, int value) {
        return x -> x.property(of, k, property, value);
    }

    private static State type(int set, int mark, String text) {
        return x -> x.type(set, mark, Start.text(text));
    }

    private static State end(int set, int mark, int style, int n) {
        return x -> x.end(set, mark, style, n);
    }

    private static State mark(int inserted, int erased, int old) {
        return x -> x.mark(inserted, erased, old);
    }

    static void anEmptyDocument() {
        saved(Start.NEW, HEAD + "0 0");
    }

    static void someOfEverything() {
        saved(Start.SMALL, HEAD + "2 0 0 1 1 16 133 80 3 0 0 0 0 0 0 0 5 72 101 108 108 111"
                + " 1 2 1 1 2 0 0 1 3 1 0 7 9 3 3 121 111 117");
    }

    static void aFullDocument() {
        StringBuilder bytes = new StringBuilder(HEAD).append("16 ");
        for (int i = 0; i < 16; i++) {
            bytes.append(i + " 1 " + i + " " + i % 2 + " ");
        }
        bytes.append("40 ");
        for (int i = 0; i < 38; i++) {
            bytes.append(i < 24 ? "0 0 1 8 " + (100 + i) + " 0 " + i + " 129 " + (127 - i) + " " + (i + 2)
                    : "0 " + (i - 23) + " " + (i - 23));
            bytes.append(" 8 65 98 99 100 101 102 103 " + (i + 160) + " ");
        }
        saved(Start.FULL, bytes + "1 16 24 24 129 79 0 1 1 1 255");
    }

    static void numbersOfOneDigitEndAt127() {
        saved(Start.styles(1).then(property(0, 0, 20, 0)), HEAD + "1 0 2 0 0 20 0 0");
        saved(Start.styles(1).then(property(0, 0, 20, 127)), HEAD + "1 0 2 0 0 20 127 0");
    }

    static void numbersOfTwoDigitsBeginAt128() {
        saved(Start.styles(1).then(property(0, 0, 20, 128)), HEAD + "1 0 2 0 0 20 129 0 0");
        saved(Start.styles(1).then(property(0, 0, 20, 129)), HEAD + "1 0 2 0 0 20 129 1 0");
        saved(Start.styles(1).then(property(0, 0, 20, 256)), HEAD + "1 0 2 0 0 20 130 0 0");
        saved(Start.styles(1).then(property(0, 0, 20, 16383)), HEAD + "1 0 2 0 0 20 255 127 0");
    }

    static void numbersOfThreeDigitsBeginAt16384() {
        saved(Start.styles(1).then(property(0, 0, 20, 16384)), HEAD + "1 0 2 0 0 20 129 128 0 0");
        saved(Start.styles(1).then(property(0, 0, 20, 16385)), HEAD + "1 0 2 0 0 20 129 128 1 0");
        saved(Start.styles(1).then(property(0, 0, 20, 16512)), HEAD + "1 0 2 0 0 20 129 129 0 0");
        saved(Start.styles(1).then(property(0, 0, 20, 32767)), HEAD + "1 0 2 0 0 20 129 255 127 0");
        saved(Start.styles(1).then(property(0, 0, 20, 32768)), HEAD + "1 0 2 0 0 20 130 128 0 0");
        saved(Start.styles(1).then(property(0, 0, 20, 65535)), HEAD + "1 0 2 0 0 20 131 255 127 0");
    }

    static void insertedAndErasedAt0And255() {
        State set = x -> x.set();
        saved(set.then(mark(0, 255, -1)).then(type(0, 0, "a")), HEAD + "0 1 0 0 0 0 0 129 127 0 1 97");
        saved(set.then(mark(255, 0, -1)).then(type(0, 0, "a")), HEAD + "0 1 0 0 0 0 129 127 0 0 1 97");
        saved(set.then(mark(127, 128, -1)).then(type(0, 0, "a")), HEAD + "0 1 0 0 0 0 127 129 0 0 1 97");
    }

    static void oneStyle() {
        saved(x -> x.style(-1), HEAD + "1 0 0 0");
    }

    static void theMostStyles() {
        State most = x -> {
            for (int i = 0; i < 16; i++) {
                x.style(i < 15 ? i - 1 : -1);
            }
        };
        saved(most, HEAD + "16 0 0 1 0 2 0 3 0 4 0 5 0 6 0 7 0 8 0 9 0 10 0 11 0 12 0 13 0 14 0 0 0 0");
    }

    static void theMostProperties() {
        StringBuilder all = new StringBuilder("24 ");
        State styled = x -> x.style(-1);
        State set = Start.PLAIN;
        for (int p = 23; p >= 0; p--) {
            styled = styled.then(property(0, 0, p, mostOf(p)));
            set = set.then(property(1, 0, p, mostOf(p)));
        }
        for (int p = 0; p < 24; p++) {
            all.append(p).append(p < 8 ? " 1 " : p < 16 ? " 129 127 " : " 131 255 127 ");
        }
        saved(styled, HEAD + "1 0 " + all + "0");
        saved(set.then(type(0, 0, "a")), HEAD + "0 1 0 0 " + all + "0 0 0 0 1 97");
    }

    static void propertiesByRisingNumber() {
        saved(Start.SMALL.then(x -> x.clear()).then(x -> x.style(-1)).then(property(0, 0, 23, 128))
                .then(property(0, 0, 8, 200)).then(property(0, 0, 0, 1)), HEAD + "1 0 3 0 1 8 129 72 23 129 0 0");
    }

    static void aPropertyOf0IsWritten() {
        saved(Start.PLAIN.then(property(1, 0, 0, 0)).then(type(0, 0, "a")), HEAD + "0 1 0 0 1 0 0 0 0 0 0 1 97");
    }

    static void aPropertyThatWentIsNotWritten() {
        saved(Start.PLAIN.then(property(1, 0, 9, 3)).then(property(1, 0, 9, -1)).then(type(0, 0, "a")), TEXT + "1 97");
    }

    static void setsAndMarksWithoutRunsAreNotWritten() {
        saved(Start.sets(24).then(Start.marks(24)), HEAD + "0 0");
        saved(Start.sets(3).then(Start.marks(3)).then(Start.PLAIN).then(type(3, 3, "a")), TEXT + "1 97");
    }

    static void theFewestAndTheMostCharactersOfAnEndRun() {
        saved(Start.PLAIN.then(end(0, 0, -1, 1)), ENDS + "1");
        saved(Start.PLAIN.then(end(0, 0, -1, 127)), ENDS + "127");
        saved(Start.PLAIN.then(end(0, 0, -1, 128)), ENDS + "129 0");
        saved(Start.PLAIN.then(end(0, 0, -1, 511)), ENDS + "131 127");
        saved(Start.PLAIN.then(end(0, 0, -1, 512)), ENDS + "132 0");
    }

    static void theStyleOfAnEndRun() {
        State first = Start.styles(16).then(Start.PLAIN);
        String styles = bytes(Start.styles(16).then(x -> x.save())).replaceAll(" 0$", " ");
        saved(first.then(end(0, 0, -1, 1)), styles + "1 1 0 0 0 0 0 0 0 1");
        saved(first.then(end(0, 0, 0, 1)), styles + "1 1 1 0 0 0 0 0 0 1");
        saved(first.then(end(0, 0, 15, 1)), styles + "1 1 16 0 0 0 0 0 0 1");
    }

    static void charactersAtTheEdgesAreOneByteEach() {
        saved(Start.PLAIN.then(type(0, 0, "\t\f ~\u00a0\u00ff")), TEXT + "6 9 12 32 126 160 255");
    }

    /** A text of 512 characters comes by way of a file, as no 40 calls type as many. */
    static void theMostText() {
        State text = Start.PLAIN;
        for (int i = 0; i < 40; i++) {
            text = text.then(type(0, 0, "abcdefgh"));
        }
        text = text.then(x -> x.save()).then(x -> x.open());
        for (int i = 0; i < 24; i++) {
            text = text.then(type(0, 0, "abcdefgh"));
        }
        answers(text, 25, x -> x.count(3));
        answers(text, 512, x -> x.count(4));
        saved(text, TEXT + "132 0 " + "97 98 99 100 101 102 103 104 ".repeat(64));
    }

    static void fortyRunsStay40() {
        State forty = Start.PLAIN;
        StringBuilder bytes = new StringBuilder(HEAD + "0 40 0 0 0 0 0 0 0 1 97");
        for (int i = 0; i < 40; i++) {
            forty = forty.then(i % 2 == 0 ? type(0, 0, "a") : end(0, 0, -1, 1));
            bytes.append(i == 0 ? "" : i % 2 == 0 ? " 0 1 1 1 97" : " 1 0 1 1 1");
        }
        saved(forty, bytes.toString());
    }

    static void fortyNeighboursBecomeOne() {
        State text = Start.PLAIN;
        State ends = Start.PLAIN;
        for (int i = 0; i < 40; i++) {
            text = text.then(type(0, 0, "ab"));
            ends = ends.then(end(0, 0, -1, 12));
        }
        saved(text, TEXT + "80" + " 97 98".repeat(40));
        saved(ends, ENDS + "131 96");
    }

    static void neighboursWhoseSetsHaveTheSameBecomeOne() {
        State state = Start.PLAIN.then(x -> x.set()).then(type(0, 0, "a")).then(type(1, 0, "b"));
        saved(state, TEXT + "2 97 98");
        for (int p = 0; p < 24; p++) {
            saved(state.then(property(1, 0, p, 1)).then(property(1, 1, p, 1)),
                    HEAD + "0 1 0 0 1 " + p + " 1 0 0 0 0 2 97 98");
        }
    }

    static void neighboursWhoseSetsDifferInOnePropertyStayApart() {
        State state = Start.PLAIN.then(x -> x.set()).then(type(0, 0, "a")).then(type(1, 0, "b"));
        for (int p = 0; p < 24; p++) {
            saved(state.then(property(1, 0, p, 1)).then(property(1, 1, p, 0)),
                    HEAD + "0 2 0 0 1 " + p + " 1 0 0 0 0 1 97 0 0 1 " + p + " 0 1 1 98");
            saved(state.then(property(1, 0, p, 0)),
                    HEAD + "0 2 0 0 1 " + p + " 0 0 0 0 0 1 97 0 0 0 1 1 98");
            saved(state.then(property(1, 1, p, 0)),
                    HEAD + "0 2 0 0 0 0 0 0 0 1 97 0 0 1 " + p + " 0 1 1 98");
        }
    }

    static void neighboursWhoseMarksHaveTheSameBecomeOne() {
        State state = Start.sets(1).then(x -> x.set()).then(property(1, 1, 8, 100)).then(mark(3, 4, 0))
                .then(mark(3, 4, 1)).then(mark(3, 4, 0));
        saved(state.then(type(0, 0, "a")).then(type(0, 1, "b")).then(type(1, 2, "c")),
                HEAD + "0 1 0 0 1 8 100 0 3 4 2 3 97 98 99");
    }

    static void neighboursWhoseMarksDifferStayApart() {
        State state = Start.sets(2).then(mark(3, 4, 0)).then(type(0, 0, "a"));
        String first = HEAD + "0 2 0 0 1 8 100 0 3 4 2 1 97 0 1 0 ";
        saved(state.then(mark(4, 4, 0)).then(type(0, 1, "b")), first + "4 4 2 1 98");
        saved(state.then(mark(3, 3, 0)).then(type(0, 1, "b")), first + "3 3 2 1 98");
        saved(state.then(mark(4, 3, 0)).then(type(0, 1, "b")), first + "4 3 2 1 98");
        saved(state.then(mark(3, 4, 1)).then(type(0, 1, "b")), first + "3 4 1 1 8 101 1 98");
        saved(state.then(mark(3, 4, -1)).then(type(0, 1, "b")), first + "3 4 0 1 98");
    }

    static void anOldSetWithoutPropertiesIsNotNone() {
        State state = Start.PLAIN.then(mark(0, 0, 0));
        saved(state.then(type(0, 0, "a")).then(type(0, 1, "b")),
                HEAD + "0 2 0 0 0 0 0 0 0 1 97 0 1 0 0 0 2 1 98");
        saved(state.then(type(0, 1, "a")).then(type(0, 0, "b")),
                HEAD + "0 2 0 0 0 0 0 0 2 1 97 0 1 0 0 0 0 1 98");
    }

    static void neighboursOfOtherKindsStayApart() {
        saved(Start.PLAIN.then(type(0, 0, "a")).then(end(0, 0, -1, 1)).then(type(0, 0, "b")),
                HEAD + "0 3 0 0 0 0 0 0 0 1 97 1 0 1 1 1 0 1 1 1 98");
    }

    /** Styles count by their number, even if they have the same base and properties. */
    static void endRunsOfOtherStylesStayApart() {
        State styles = x -> {
            x.style(-1);
            x.style(-1);
        };
        saved(styles.then(Start.PLAIN).then(end(0, 0, 0, 1)).then(end(0, 0, 1, 2)).then(end(0, 0, -1, 3)),
                HEAD + "2 0 0 0 0 3 1 1 0 0 0 0 0 0 1 1 2 1 1 2 1 0 1 1 3");
        saved(styles.then(Start.PLAIN).then(end(0, 0, 1, 1)).then(end(0, 0, 1, 2)),
                HEAD + "2 0 0 0 0 1 1 2 0 0 0 0 0 0 3");
    }

    static void runsThatAreNoNeighboursStayApart() {
        saved(Start.PLAIN.then(x -> x.set()).then(property(1, 1, 7, 0)).then(type(0, 0, "a")).then(type(1, 0, "b"))
                .then(type(0, 0, "c")), HEAD + "0 3 0 0 0 0 0 0 0 1 97 0 0 1 7 0 1 1 98 0 1 1 1 99");
    }

    static void neighboursBecomeOneInTheMiddleToo() {
        saved(Start.PLAIN.then(end(0, 0, -1, 1)).then(type(0, 0, "a")).then(type(0, 0, "b")).then(type(0, 0, "c"))
                .then(end(0, 0, -1, 100)).then(end(0, 0, -1, 28)),
                HEAD + "0 3 1 0 0 0 0 0 0 0 1 0 1 1 3 97 98 99 1 0 1 1 129 0");
    }

    static void aSetThatChangesBehindItsRunsIsWrittenAsItIs() {
        State state = Start.PLAIN.then(x -> x.set()).then(type(0, 0, "a")).then(type(1, 0, "b"));
        State apart = state.then(property(1, 1, 0, 1));
        saved(apart, HEAD + "0 2 0 0 0 0 0 0 0 1 97 0 0 1 0 1 1 1 98");
        saved(apart.then(x -> x.save()).then(property(1, 1, 0, -1)), TEXT + "2 97 98");
    }

    static void theMostSetsAndTheirNumbers() {
        State state = Start.sets(24).then(mark(0, 0, -1)).then(mark(1, 0, 23));
        StringBuilder bytes = new StringBuilder(HEAD + "0 27 ");
        for (int i = 0; i < 24; i++) {
            state = state.then(type(i, 0, "a"));
            bytes.append("0 0 1 8 " + (100 + i) + (i == 0 ? " 0 0 0 0" : " 1") + " 1 97 ");
        }
        saved(state.then(end(23, 0, -1, 1)).then(type(0, 0, "b")).then(type(0, 1, "c")),
                bytes + "1 0 24 1 1 0 1 1 1 98 0 1 0 1 0 25 1 99");
    }

    static void setsHaveNumbersByTheOrderInWhichTheyStand() {
        State state = Start.sets(3).then(mark(0, 0, -1)).then(mark(0, 0, 1));
        saved(state.then(type(2, 1, "a")).then(type(1, 0, "b")).then(type(0, 0, "c")).then(type(2, 0, "d")),
                HEAD + "0 4 0 0 1 8 102 0 0 0 1 1 8 101 1 97 0 2 0 0 0 0 1 98 0 0 1 8 100 2 1 99 0 1 2 1 100");
    }

    static void anOldSetThatStoodBeforeIsItsNumberPlus1() {
        State state = Start.sets(2).then(mark(0, 0, 0)).then(mark(0, 0, 1)).then(mark(1, 0, 1));
        saved(state.then(type(0, 0, "a")), HEAD + "0 1 0 0 1 8 100 0 0 0 2 1 97");
        saved(state.then(type(0, 1, "a")).then(type(0, 2, "b")),
                HEAD + "0 2 0 0 1 8 100 0 0 0 1 1 8 101 1 97 0 1 0 1 0 3 1 98");
    }

    static void aSetWithTheSameIsTheNumberOfTheFirst() {
        State state = Start.sets(2).then(x -> x.set()).then(property(1, 2, 8, 100)).then(mark(0, 0, -1))
                .then(mark(1, 0, 2)).then(mark(1, 0, 0));
        String two = HEAD + "0 3 0 0 1 8 100 0 0 0 0 1 97 0 0 1 8 101 1 1 98 0 1 ";
        saved(state.then(type(0, 0, "a")).then(type(1, 0, "b")).then(type(2, 0, "c")), two + "1 1 99");
        saved(state.then(type(2, 0, "a")).then(type(1, 0, "b")).then(type(0, 0, "c")), two + "1 1 99");
        saved(state.then(type(0, 0, "a")).then(type(1, 0, "b")).then(type(0, 1, "c")), two + "0 1 0 2 1 99");
        saved(state.then(type(2, 0, "a")).then(type(1, 0, "b")).then(type(2, 2, "c")), two + "0 1 0 2 1 99");
    }

    static void aMarkWithTheSameIsTheNumberOfTheFirst() {
        State state = Start.sets(2).then(x -> x.set()).then(property(1, 2, 8, 101)).then(mark(9, 8, 1))
                .then(mark(9, 8, -1)).then(mark(9, 8, 2)).then(mark(9, 8, -1));
        saved(state.then(type(0, 0, "a")).then(type(0, 1, "b")).then(type(0, 2, "c")).then(type(0, 3, "d")),
                HEAD + "0 4 0 0 1 8 100 0 9 8 1 1 8 101 1 97 0 1 0 9 8 0 1 98 0 1 1 1 99 0 1 2 1 100");
    }

    static void theMostMarksAndTheirNumbers() {
        State state = x -> x.set();
        StringBuilder bytes = new StringBuilder(HEAD + "0 26 ");
        for (int i = 0; i < 24; i++) {
            state = state.then(mark(i, 0, -1)).then(type(0, i, "a"));
            bytes.append("0 " + (i == 0 ? "0 0" : "1") + " 0 " + i + " 0 0 1 97 ");
        }
        saved(state.then(end(0, 23, -1, 1)).then(type(0, 0, "b")), bytes + "1 0 1 24 1 0 1 1 1 98");
    }

    static void marksCountForThemselves() {
        State state = Start.sets(3).then(mark(5, 6, -1)).then(mark(6, 5, -1));
        saved(state.then(type(0, 1, "a")).then(type(1, 1, "b")).then(type(2, 0, "c")).then(type(2, 1, "d")),
                HEAD + "0 4 0 0 1 8 100 0 6 5 0 1 97 0 0 1 8 101 1 1 98 0 0 1 8 102 0 5 6 0 1 99 0 3 1 1 100");
    }

    /** Sets and marks by other numbers, more than once or not used, text in other pieces, other calls before. */
    static void eachDocumentIsWrittenInJustOneWay() {
        String file = HEAD + "0 2 0 0 1 8 100 0 1 2 1 1 8 101 3 97 98 99 1 0 2 0 0 0 0 2";
        State one = Start.sets(2).then(mark(1, 2, 1)).then(mark(0, 0, -1));
        saved(one.then(type(0, 0, "abc")).then(end(1, 1, -1, 2)), file);
        State other = Start.FULL.then(x -> x.clear()).then(Start.sets(2)).then(Start.sets(2)).then(property(1, 0, 9, 1))
                .then(property(1, 2, 8, 101)).then(property(1, 3, 8, 100)).then(mark(0, 0, -1)).then(mark(0, 0, -1))
                .then(mark(1, 2, 1)).then(mark(1, 2, 2));
        // The first two sets have the same as the last two, in another order.
        saved(other.then(property(1, 0, 9, -1)).then(type(3, 3, "a")).then(type(0, 2, "b")).then(type(3, 2, "c"))
                .then(end(1, 1, -1, 1)).then(end(2, 0, -1, 1)), file);
        saved(Start.file(file).then(x -> x.open()), file);
    }

    static void theFileBeforeIsGone() {
        State longer = Start.file("1 2 3 4 5 6 7 8 9 10 11 12");
        saved(longer, HEAD + "0 0");
        saved(Start.FULL.then(x -> x.clear()), HEAD + "0 0");
        answers(longer.then(x -> x.save()), -1, x -> x.octet(5));
        saved(Start.file("9").then(x -> x.style(-1)), HEAD + "1 0 0 0");
    }

    static void savingDoesNotJoinTheRunsOfTheDocument() {
        State state = Start.PLAIN.then(type(0, 0, "a")).then(type(0, 0, "b")).then(x -> x.save());
        answers(state, 2, x -> x.count(3));
        answers(state, 1, x -> x.run(1, 4));
        answers(state.then(type(0, 0, "c")), 3, x -> x.count(3));
    }

    /** As many properties as there may be take more calls than are promised; no file of 512 calls is as long. */
    static void aFileWithAllThatThereMayBeStaysBelow6000() {
        State largest = x -> {
            x.goBeyond();
            for (int k = 0; k < 24; k++) {
                x.set();
                if (k < 16) {
                    x.style(k - 1);
                }
                for (int p = 0; p < 24; p++) {
                    x.property(1, k, p, mostOf(p));
                    x.property(0, k, p, mostOf(p));
                }
                x.property(1, k, 16, 16384 + k);
            }
            for (int k = 0; k < 24; k++) {
                x.mark(255, 255 - k, k);
            }
            for (int i = 0; i < 39; i++) {
                x.type(i % 24, i % 24, Start.text("ABCDEFGH"));
            }
            x.end(23, 23, 15, 200);
        };
        // 74 bytes for a style or a set with all 24, 6 for a mark; each run has a kind and a length too.
        int writtenOut = 16 * 74 + 24 * 74 + 24 * 6;
        int textRuns = 39 * 2 + 15 * 2 + 39 * 8;
        answers(largest, 3 + 1 + 1 + writtenOut + textRuns + 6, x -> x.save());
        State opened = largest.then(x -> x.save()).then(x -> x.open());
        same("the document that opens", Look.document(largest), Look.document(opened));
    }
}
