/**
 * Promise 16: open, of files with a fault: each kind that "Opening" lists, at the first place where it can stand
 * and at the last, the place that is answered, and that all stays as it was.
 */
public final class Promise16FaultTest extends Cases {
    private static final String HEAD = "77 83 1 ";
    private static final String NO_STYLE = HEAD + "0 ";
    private static final String STYLES_15 = HEAD + "16 " + "0 0 ".repeat(15);
    private static final String STYLES_16 = STYLES_15 + "0 0 ";
    /** A first text run, with the set 1 and the mark 1. */
    private static final String FIRST = "0 0 0 0 0 0 0 1 97 ";
    /** All of a file ahead of its second run, and ahead of its 40th, which ends what can be in a file. */
    private static final String AT_RUN_2 = NO_STYLE + "2 " + FIRST;
    private static final String AT_RUN_40 = NO_STYLE + "40 " + FIRST + more(38);
    private static final String[] TOO_HIGH = {"132 128 0", "132 128 1", "255 255 127", "129 128 128 0",
        "131 255 255 127", "255 255 255 127", "144 128 128 128 0", "144 128 128 128 1",
        "130 128 128 128 128 128 128 128 128 0", "255 255 255 255 255 255 255 255 255 127"};

    public static void main(String[] args) {
        run(Promise16FaultTest.class);
    }

    /** As many runs behind FIRST, none the same as its neighbours. */
    private static String more(int runs) {
        StringBuilder bytes = new StringBuilder();
        for (int i = 0; i < runs; i++) {
            bytes.append(i % 2 == 0 ? "1 0 1 1 1 " : "0 1 1 1 97 ");
        }
        return bytes.toString();
    }

    private static int length(String bytes) {
        return bytes.isBlank() ? 0 : bytes.trim().split(" +").length;
    }

    /** The first fault is that of the item which begins behind these bytes. */
    private static void fault(String ahead, String fromItem) {
        State state = Start.SMALL.then(Start.file(ahead + " " + fromItem));
        refused(state, length(ahead) + 1, x -> x.open());
    }

    /** A fault in the file of the full document, whose places are those of promise 15's test of it. */
    private static void faultOfFull(int place, State change) {
        State state = Start.FULL.then(change).then(x -> x.clear()).then(Start.DOCUMENT);
        refused(state, place + 1, x -> x.open());
    }

    private static int lengthOfFull() {
        return at(Start.FULL).save();
    }

    // An item that isn't there as a whole.

    static void noByteAtAll() {
        fault("", "");
    }

    static void aFileThatEndsWithinTheFirstThreeBytes() {
        fault("77", "");
        fault("77 83", "");
    }

    static void aFileThatEndsAheadOfItsFirstNumber() {
        fault("77 83 1", "");
    }

    static void aFileThatEndsAheadOfTheNumberOfRuns() {
        fault("77 83 1 0", "");
        fault(STYLES_16, "");
    }

    static void aFileThatEndsAheadOfItsRuns() {
        fault(NO_STYLE + "1", "");
        fault(NO_STYLE + "40", "");
        fault(STYLES_16 + "40", "");
    }

    static void aFileThatEndsAheadOfItsLastItem() {
        fault(AT_RUN_40, "");
        fault(AT_RUN_40 + "1 0 1 1", "");
        fault(AT_RUN_40 + "0 1 0 1 0 0 1", "");
        fault(AT_RUN_40 + "0 1 0 1 0 0 3 97 97", "");
        int n = lengthOfFull();
        faultOfFull(n - 1, x -> x.cut(n - 1));
    }

    static void aFileThatEndsWithinItsFirstNumber() {
        fault(HEAD, "129");
        fault(HEAD, "129 128");
        fault(HEAD, "255");
    }

    static void aFileThatEndsWithinItsLastNumber() {
        fault(AT_RUN_40 + "1 0 1 1", "129");
        fault(AT_RUN_40 + "1 0 1 1", "129 128");
        fault(AT_RUN_40 + "0 1 0 1 0 0", "131");
    }

    /** Cut anywhere, a file ends in a fault: at the item that lost bytes, or that would come next. */
    static void aFileThatEndsAnywhere() {
        String[] items = Start.SAMPLE_FILE.split(",");
        StringBuilder ahead = new StringBuilder();
        for (String item : items) {
            for (int n = 0; n < length(item); n++) {
                StringBuilder part = new StringBuilder();
                for (int i = 0; i < n; i++) {
                    part.append(item.split(" ")[i]).append(' ');
                }
                fault(ahead.toString(), part.toString());
            }
            ahead.append(item).append(' ');
        }
        answers(Start.file(ahead.toString()), 0, x -> x.open());
    }

    // Numbers.

    /** Puts a number that is wrong in the place of each one of a file. */
    private static void eachNumber(String wrong) {
        String[] items = Start.SAMPLE_FILE.split(",");
        StringBuilder ahead = new StringBuilder();
        for (int i = 0; i < items.length; i++) {
            StringBuilder behind = new StringBuilder();
            for (int j = i + 1; j < items.length; j++) {
                behind.append(items[j]).append(' ');
            }
            if (i >= 3 && i < items.length - 3) {
                fault(ahead.toString(), wrong.replace("n", items[i]) + " " + behind);
            }
            ahead.append(items[i]).append(' ');
        }
    }

    static void aNumberThatBeginsWithADigit0First() {
        fault(HEAD, "128 1 0 0 0");
        fault(HEAD, "128 129 0");
        fault(HEAD, "128");
    }

    static void aNumberThatBeginsWithADigit0Last() {
        fault(AT_RUN_40 + "1 0 1 1", "128 1");
        fault(AT_RUN_40 + "1 0 1 1", "128 129 0");
        fault(AT_RUN_40 + "1 0 1 1", "128");
    }

    static void aNumberThatBeginsWithADigit0Anywhere() {
        eachNumber("128 n");
        eachNumber("128 128 n");
    }

    /** The number 0 is one digit 0. */
    static void a0OfMoreThanOneDigit() {
        fault(HEAD, "128 0 0");
        fault(HEAD, "128 128 0 0");
        fault(NO_STYLE, "128 0");
        fault(AT_RUN_40 + "1", "128 0 1 1 1");
        fault(AT_RUN_40 + "0 1 0 0 1", "128 0 1 97");
        eachNumber("128 0");
    }

    static void aNumberAbove65535First() {
        for (String number : TOO_HIGH) {
            fault(HEAD, number + " 0");
            fault(HEAD, number);
        }
    }

    static void aNumberAbove65535Last() {
        for (String number : TOO_HIGH) {
            fault(AT_RUN_40 + "1 0 1 1", number);
        }
    }

    static void aNumberAbove65535Anywhere() {
        for (String number : TOO_HIGH) {
            eachNumber(number);
        }
    }

    static void aValueAbove65535() {
        for (String number : TOO_HIGH) {
            fault(HEAD + "1 0 1 16", number + " 0");
            fault(AT_RUN_40 + "0 1 0 0 0 1 1 23", number + " 1 97");
        }
    }

    // The first three bytes.

    static void anotherFirstByte() {
        for (int octet : new int[] {0, 1, 76, 78, 83, 128, 205, 255}) {
            fault("", octet + " 83 1 0 0");
            fault("", octet + "");
        }
    }

    static void anotherSecondByte() {
        for (int octet : new int[] {0, 1, 77, 82, 84, 211, 255}) {
            fault("77", octet + " 1 0 0");
            fault("77", octet + "");
        }
    }

    static void anotherThirdByte() {
        for (int octet : new int[] {0, 2, 77, 83, 129, 255}) {
            fault("77 83", octet + " 0 0");
            fault("77 83", octet + "");
        }
    }

    static void theFirstOfThreeWrongBytesIsTold() {
        fault("", "0 0 0 0 0");
        fault("77", "0 0 0 0");
    }

    // How many styles and runs.

    static void moreThan16Styles() {
        fault(HEAD, "17 " + "0 0 ".repeat(17) + "0");
        fault(HEAD, "17");
        fault(HEAD, "32 " + "0 0 ".repeat(32) + "0");
        fault(HEAD, "127");
        fault(HEAD, "129 0");
        fault(HEAD, "131 255 127");
    }

    static void moreThan40RunsFirst() {
        fault(NO_STYLE, "41 " + FIRST + more(40));
        fault(NO_STYLE, "41");
        fault(NO_STYLE, "127");
        fault(NO_STYLE, "129 0");
        fault(NO_STYLE, "131 255 127");
    }

    static void moreThan40RunsLast() {
        fault(STYLES_16, "41 " + FIRST + more(40));
        fault(STYLES_16, "41");
        faultOfFull(68, x -> x.alter(68, 41));
    }

    // Bases.

    static void aBaseThatIsNoStyleFirst() {
        fault(HEAD + "1", "2 0 0");
        fault(HEAD + "1", "127 0 0");
        fault(HEAD + "1", "131 255 127 0 0");
        fault(HEAD + "2", "3 0 0 0 0");
        fault(HEAD + "16", "17 0 " + "0 0 ".repeat(15) + "0");
    }

    static void aBaseThatIsNoStyleLast() {
        fault(STYLES_15, "17 0 0");
        fault(STYLES_15, "18 0 0");
        fault(STYLES_15, "131 255 127 0 0");
        fault(HEAD + "2 0 0", "3 0 0");
        faultOfFull(4 + 15 * 4, x -> x.alter(4 + 15 * 4, 17));
    }

    static void aStyleThatIsItsOwnBaseFirst() {
        fault(HEAD + "1", "1 0 0");
        fault(HEAD + "2", "1 0 0 0 0");
        fault(HEAD + "16", "1 0 " + "0 0 ".repeat(15) + "0");
    }

    static void aStyleThatIsItsOwnBaseLast() {
        fault(STYLES_15, "16 0 0");
        fault(HEAD + "2 0 0", "2 0 0");
        faultOfFull(4 + 15 * 4, x -> x.alter(4 + 15 * 4, 16));
    }

    static void aStyleThatComesToItselfFirst() {
        fault(HEAD + "2 2 0", "1 0 0");
        fault(HEAD + "16 2 0", "1 0 " + "0 0 ".repeat(14) + "0");
        fault(HEAD + "3 2 0", "1 0 0 0 0");
    }

    static void aStyleThatComesToItselfLast() {
        StringBuilder chain = new StringBuilder(HEAD + "16 ");
        for (int i = 2; i <= 16; i++) {
            chain.append(i).append(" 0 ");
        }
        for (int base = 1; base <= 16; base++) {
            fault(chain.toString(), base + " 0 0");
        }
        fault(HEAD + "16 " + "16 0 ".repeat(15), "7 0 0");
    }

    /** The base that closes the ring is the fault, though others of the ring were read before. */
    static void aStyleThatComesToItselfByWayOfOthers() {
        fault(HEAD + "3 2 0 3 0", "1 0 0");
        fault(HEAD + "3 3 0 0 0", "1 0 0");
        fault(HEAD + "3 0 0 3 0", "2 0 0");
        fault(HEAD + "4 4 0 1 0 2 0", "3 0 0");
        fault(HEAD + "4 3 0 4 0 2 0", "1 0 0");
        fault(HEAD + "4 3 0 4 0", "1 0 2 0 0");
    }

    // Properties: those of the first style are the first in a file, those of the 40th run's old set the last.

    private static void eachProperties(String right, String fromFault) {
        fault(HEAD + "1 0 " + right, fromFault);
        fault(STYLES_15 + "0 " + right, fromFault);
        fault(NO_STYLE + "1 0 0 " + right, fromFault);
        fault(NO_STYLE + "1 0 0 0 0 0 0 1 " + right, fromFault);
        fault(AT_RUN_40 + "0 0 " + right, fromFault);
        fault(AT_RUN_40 + "0 1 0 0 0 1 " + right, fromFault);
    }

    static void moreThan24Properties() {
        StringBuilder all = new StringBuilder();
        for (int p = 0; p < 24; p++) {
            all.append(p).append(" 1 ");
        }
        eachProperties("", "25 " + all + "23 1 0 0 0 0");
        eachProperties("", "25");
        eachProperties("", "127");
        eachProperties("", "129 0");
        eachProperties("", "131 255 127");
    }

    static void aPropertyThatIsNone() {
        eachProperties("1", "24 0 0 0 0 0");
        eachProperties("1", "25 0");
        eachProperties("1", "127");
        eachProperties("1", "129 0 0");
        eachProperties("1", "131 255 127");
    }

    static void a24thPropertyThatIsNone() {
        StringBuilder first = new StringBuilder();
        for (int p = 0; p < 23; p++) {
            first.append(p).append(" 1 ");
        }
        eachProperties("24 " + first, "24 0 0 0 0 0");
        eachProperties("24 " + first, "25");
    }

    static void aPropertyThatDoesNotRise() {
        eachProperties("2 0 1", "0 1 0 0 0 0");
        eachProperties("2 1 1", "0 1 0 0 0 0");
        eachProperties("2 23 1", "23 1 0 0 0 0");
        eachProperties("2 23 1", "22 1 0 0 0 0");
        eachProperties("2 23 1", "0 1 0 0 0 0");
        eachProperties("3 3 1 5 1", "4 1 0 0 0 0");
    }

    static void a24thPropertyThatDoesNotRise() {
        StringBuilder first = new StringBuilder();
        for (int p = 0; p < 23; p++) {
            first.append(p).append(" 1 ");
        }
        eachProperties("24 " + first, "22 1 0 0 0 0");
        eachProperties("24 " + first, "0 1 0 0 0 0");
    }

    /** Behind property 23 none rises. */
    static void aPropertyBehindTheLast() {
        eachProperties("2 23 1", "24 1 0 0 0 0");
    }

    static void aValueAboveItsMost() {
        for (int p = 0; p < 24; p++) {
            String above = p < 8 ? "2" : p < 16 ? "130 0" : "132 128 0";
            eachProperties("1 " + p, above + " 0 0 0 0");
        }
        eachProperties("1 0", "131 255 127");
        eachProperties("1 7", "129 127");
        eachProperties("1 8", "131 255 127");
        eachProperties("1 15", "255 127");
    }

    static void aLastValueAboveItsMost() {
        eachProperties("2 0 1 7", "2 0 0");
        eachProperties("2 7 1 8", "130 0 0 0");
        eachProperties("2 15 129 127 23", "132 128 0 0 0");
    }

    // Kinds and styles of runs.

    static void aKindAbove1First() {
        fault(NO_STYLE + "1", "2 0 0 0 0 0 0 1 97");
        fault(NO_STYLE + "1", "3");
        fault(NO_STYLE + "1", "127");
        fault(NO_STYLE + "1", "129 0");
        fault(NO_STYLE + "1", "131 255 127");
    }

    static void aKindAbove1Last() {
        fault(AT_RUN_40, "2 0 1 1 1");
        fault(AT_RUN_40, "2");
        fault(AT_RUN_40, "129 1 0 1 1 1");
    }

    static void aStyleOfARunThatIsNotThereFirst() {
        fault(NO_STYLE + "1 1", "1 0 0 0 0 0 0 1");
        fault(NO_STYLE + "1 1", "131 255 127");
        fault(HEAD + "1 0 0 1 1", "2 0 0 0 0 0 0 1");
        fault(STYLES_16 + "1 1", "17 0 0 0 0 0 0 1");
    }

    static void aStyleOfARunThatIsNotThereLast() {
        fault(AT_RUN_40 + "1", "1 1 1 1");
        fault(STYLES_16 + "40 " + FIRST + more(38) + "1", "17 1 1 1");
        fault(STYLES_16 + "40 " + FIRST + more(38) + "1", "131 255 127");
    }

    // Sets and marks.

    /** Twelve runs whose sets and old ones are all 24 that there may be: a run of two sets each. */
    private static String setsInPairs() {
        StringBuilder runs = new StringBuilder();
        for (int i = 0; i < 12; i++) {
            runs.append("0 0 1 8 " + 2 * i + " 0 0 0 1 1 8 " + (2 * i + 1) + " 1 97 ");
        }
        return runs.toString();
    }

    static void a25thSetFirst() {
        String ahead = NO_STYLE + "13 " + setsInPairs();
        fault(ahead + "0", "0 1 8 24 1 1 97");
        fault(ahead + "0", "0 0 1 1 97");
        fault(ahead + "0", "0");
        fault(ahead + "1 0", "0 1 8 24 1 1");
    }

    static void a25thSetFirstAsAnOldOne() {
        String ahead = NO_STYLE + "13 " + setsInPairs();
        fault(ahead + "0 1 0 0 0", "1 1 8 24 1 97");
        fault(ahead + "0 1 0 0 0", "1");
        // 23 sets, then one run with the 24th and the 25th.
        String runs = setsInPairs();
        String last = "0 0 1 8 22 0 0 0 1 1 8 23 1 97 ";
        String with23 = runs.substring(0, runs.length() - last.length()) + "0 0 1 8 22 1 1 97 ";
        fault(NO_STYLE + "13 " + with23 + "0 0 1 8 23 0 0 0", "1 1 8 24 1 97");
    }

    static void a25thSetLast() {
        String ahead = NO_STYLE + "40 " + setsInPairs() + "0 1 1 1 97 " + more(26);
        fault(ahead + "1 0", "0 1 8 24 1 1");
        fault(ahead + "1 0", "0");
        fault(ahead + "1 0 1 0 0 0", "1 1 8 24 1");
        fault(ahead + "1 0 1 0 0 0", "1");
    }

    /** Though it would be one that was written before. */
    static void a25thSetThatStoodBeforeIsTheFaultOfItsNumber() {
        String ahead = NO_STYLE + "13 " + setsInPairs();
        fault(ahead + "0", "0 1 8 3 1 1 97");
        fault(ahead + "0 1 0 0 0", "1 1 8 3 1 97");
    }

    private static String marks24() {
        StringBuilder runs = new StringBuilder(FIRST);
        for (int i = 1; i < 24; i++) {
            runs.append("0 1 0 ").append(i).append(" 0 0 1 97 ");
        }
        return runs.toString();
    }

    static void a25thMarkFirst() {
        fault(NO_STYLE + "25 " + marks24() + "0 1", "0 24 0 0 1 97");
        fault(NO_STYLE + "25 " + marks24() + "0 1", "0");
        fault(NO_STYLE + "25 " + marks24() + "0 1", "0 130 0");
        fault(NO_STYLE + "25 " + marks24() + "1 0 0 1 0 0", "0 24 0 0 1");
    }

    static void a25thMarkLast() {
        String ahead = NO_STYLE + "40 " + marks24() + "0 1 1 1 97 " + more(14);
        fault(ahead + "1 0 1", "0 24 0 0 1");
        fault(ahead + "1 0 1", "0");
    }

    static void a25thMarkThatStoodBeforeIsTheFaultOfItsNumber() {
        fault(NO_STYLE + "25 " + marks24() + "0 1", "0 3 0 0 1 97");
    }

    static void theNumberOfNoSetFirst() {
        fault(NO_STYLE + "1 0", "1 0 0 0 0 1 97");
        fault(NO_STYLE + "1 0", "24 0 0 0 0 1 97");
        fault(NO_STYLE + "1 0", "131 255 127 0 0 0 0 1 97");
        fault(NO_STYLE + "1 1 0", "1 0 0 0 0 1");
        fault(AT_RUN_2 + "0", "2 1 1 98");
    }

    static void theNumberOfNoSetLast() {
        fault(AT_RUN_40 + "1 0", "2 1 1");
        String ahead = NO_STYLE + "40 " + setsInPairs() + "0 1 1 1 97 " + more(26);
        fault(ahead + "1 0", "25 1 1");
        fault(ahead + "1 0", "26 1 1");
        fault(ahead + "1 0", "131 255 127 1 1");
    }

    static void theNumberOfNoOldSetFirst() {
        fault(NO_STYLE + "1 0 0 0 0 0 0", "3 1 97");
        fault(NO_STYLE + "1 0 0 0 0 0 0", "25 1 97");
        fault(NO_STYLE + "1 0 0 0 0 0 0", "131 255 127 1 97");
    }

    static void theNumberOfNoOldSetLast() {
        fault(AT_RUN_40 + "1 0 1 0 0 1", "3 1");
        String ahead = NO_STYLE + "40 " + setsInPairs() + "0 1 1 1 97 " + more(26);
        fault(ahead + "1 0 1 0 1 0", "26 1");
        fault(ahead + "1 0 1 0 1 0", "27 1");
    }

    static void theNumberOfNoMarkFirst() {
        fault(NO_STYLE + "1 0 0 0", "1 1 97");
        fault(NO_STYLE + "1 0 0 0", "24 1 97");
        fault(NO_STYLE + "1 0 0 0", "131 255 127 1 97");
        fault(AT_RUN_2 + "0 1", "2 1 98");
    }

    /** Sets are counted apart: so many of them are no marks. */
    static void theNumberOfNoMarkThoughThereIsSuchASet() {
        String ahead = NO_STYLE + "13 " + setsInPairs();
        fault(ahead + "0 1", "13 1 97");
        fault(ahead + "0 1", "24 1 97");
    }

    static void theNumberOfNoMarkLast() {
        fault(AT_RUN_40 + "1 0 1", "2 1");
        String ahead = NO_STYLE + "40 " + marks24() + "0 1 1 1 97 " + more(14);
        fault(ahead + "1 0 1", "25 1");
        fault(ahead + "1 0 1", "26 1");
        fault(ahead + "1 0 1", "131 255 127 1");
    }

    static void insertedAbove255First() {
        fault(NO_STYLE + "1 0 0 0 0", "130 0 0 0 1 97");
        fault(NO_STYLE + "1 0 0 0 0", "130 1 0 0 1 97");
        fault(NO_STYLE + "1 0 0 0 0", "131 255 127 0 0 1 97");
    }

    static void insertedAbove255Last() {
        fault(AT_RUN_40 + "1 0 1 0", "130 0 0 0 1");
        fault(AT_RUN_40 + "1 0 1 0", "131 255 127 0 0 1");
    }

    static void erasedAbove255First() {
        fault(NO_STYLE + "1 0 0 0 0 0", "130 0 0 1 97");
        fault(NO_STYLE + "1 0 0 0 0 129 127", "130 0 0 1 97");
        fault(NO_STYLE + "1 0 0 0 0 0", "131 255 127 0 1 97");
    }

    static void erasedAbove255Last() {
        fault(AT_RUN_40 + "1 0 1 0 0", "130 0 0 1");
        fault(AT_RUN_40 + "1 0 1 0 0", "131 255 127 0 1");
    }

    // Characters.

    static void noCharacterFirst() {
        fault(NO_STYLE + "1 0 0 0 0 0 0 0", "0");
        fault(NO_STYLE + "1 0 0 0 0 0 0 0", "0 97");
        fault(NO_STYLE + "1 1 0 0 0 0 0 0 0", "0");
        fault(AT_RUN_2 + "1 0 1 1", "0");
    }

    static void noCharacterLast() {
        fault(AT_RUN_40 + "1 0 1 1", "0");
        fault(AT_RUN_40 + "0 1 0 1 0 0", "0");
    }

    static void moreThan512CharactersFirst() {
        fault(NO_STYLE + "1 0 0 0 0 0 0 0", "132 1 97");
        fault(NO_STYLE + "1 0 0 0 0 0 0 0", "131 255 127 97");
        fault(NO_STYLE + "1 1 0 0 0 0 0 0 0", "132 1");
        fault(NO_STYLE + "1 1 0 0 0 0 0 0 0", "131 255 127");
        fault(NO_STYLE + "2 1 0 0 0 0 0 0 0 131 127 0 1 1", "2 97 97");
        fault(NO_STYLE + "2 1 0 0 0 0 0 0 0 132 0 0 1 1", "1 97");
    }

    /** The first run has 474 characters, the next 38 one each, which makes 512. */
    static void moreThan512CharactersLast() {
        String ahead = NO_STYLE + "40 1 0 0 0 0 0 0 0 131 90 " + more(39).substring("1 0 1 1 1 ".length());
        fault(ahead + "0 1 1", "1 97");
        fault(ahead + "0 1 1", "132 0");
        fault(ahead.replace("131 90", "131 89") + "0 1 1", "2 97 97");
        answers(Start.file(ahead.replace("131 90", "131 89") + "0 1 1 1 97"), 0, x -> x.open());
        int last = lengthOfFull() - 2;
        faultOfFull(last, x -> x.alter(last, 2));
    }

    static void aCharacterThatIsNoneOfATextRunFirst() {
        for (int c = 0; c < 256; c++) {
            if (!(c == 9 || c == 12 || c >= 32 && c <= 126 || c >= 160)) {
                fault(NO_STYLE + "1 0 0 0 0 0 0 0 3", c + " 97 97");
                fault(NO_STYLE + "1 0 0 0 0 0 0 0 3 97", c + " 97");
                fault(NO_STYLE + "1 0 0 0 0 0 0 0 3 97 97", c + "");
            }
        }
    }

    static void aCharacterThatIsNoneOfATextRunLast() {
        int last = lengthOfFull() - 1;
        for (int c : new int[] {0, 8, 10, 11, 13, 31, 127, 128, 159}) {
            faultOfFull(last, x -> x.alter(last, c));
            fault(AT_RUN_40 + "0 1 0 1 0 0 2 97", c + "");
        }
    }

    static void aCharacterThatIsNotThere() {
        fault(NO_STYLE + "1 0 0 0 0 0 0 0 3", "");
        fault(NO_STYLE + "1 0 0 0 0 0 0 0 3 97", "");
        fault(NO_STYLE + "1 0 0 0 0 0 0 0 3 97 97", "");
        fault(NO_STYLE + "1 0 0 0 0 0 0 0 132 0 97", "");
    }

    // A set with the same was written before.

    static void theSameSetAgainFirst() {
        // In the first run it can be the old one only.
        fault(NO_STYLE + "1 0 0 0 0 0 0", "1 0 1 97");
        fault(AT_RUN_2 + "1 0", "0 0 1 1");
        fault(AT_RUN_2 + "0", "0 0 0 1 0 0 1 97");
    }

    static void theSameSetAgainLast() {
        fault(AT_RUN_40 + "1 0", "0 0 1 1");
        fault(AT_RUN_40 + "1 0 1 0 0 1", "1 0 1");
        String ahead = NO_STYLE + "40 " + setsInPairs().replace("0 0 1 8 0 0", "0 0 0 0")
                .replace("0 0 0 1 1 8 23 1 97", "1 1 97") + "0 1 1 1 97 " + more(26);
        fault(ahead + "1 0", "0 1 8 22 1 1");
        fault(ahead + "1 0", "0 0 1 1");
        fault(ahead + "1 0 1 0 0 0", "1 1 8 21 1");
    }

    static void theSameSetAgainWithAll24Properties() {
        StringBuilder all = new StringBuilder("24 ");
        for (int p = 0; p < 24; p++) {
            all.append(p).append(" 1 ");
        }
        String ahead = NO_STYLE + "2 0 0 " + all + "0 0 0 0 1 97 1 0";
        fault(ahead, "0 " + all + "1 1");
        fault(ahead, "0 " + all);
        String other = all.substring(0, all.length() - 2) + "0 ";
        answers(Start.file(ahead + " 0 " + other + "1 1"), 0, x -> x.open());
    }

    static void theSameSetAsAnOldOneBefore() {
        String ahead = NO_STYLE + "2 0 0 0 0 0 0 1 1 7 1 1 97 ";
        fault(ahead + "1 0", "0 1 7 1 1 1");
        fault(ahead + "1 0 1 0 0 1", "1 1 7 1 1");
        fault(ahead + "1 0 1 0 0 1", "1 0 1");
    }

    /** It is told when all its properties are read: ahead of what comes next, behind what is wrong in them. */
    static void theSameSetAgainIsToldBehindItsProperties() {
        String ahead = NO_STYLE + "2 0 0 2 3 1 9 129 1 0 0 0 0 1 97 1 0";
        fault(ahead, "0 2 3 1 9 129 1");
        fault(ahead, "0 2 3 1 9 129 1 128");
        fault(ahead, "0 2 3 1 9 129 1 9");
        fault(ahead + " 0 2 3 1 9", "129");
        fault(ahead + " 0 2 3 1", "3 129 1 1 1");
        fault(ahead + " 0 2 3", "2 9 129 1 1 1");
        fault(ahead + " 0", "25 3 1 9 129 1 1 1");
    }

    // A mark with the same was written before.

    static void theSameMarkAgainFirst() {
        fault(AT_RUN_2 + "1 0 1", "0 0 0 0 1");
        fault(AT_RUN_2 + "0 1", "0 0 0 0 1 97");
    }

    static void theSameMarkAgainLast() {
        fault(AT_RUN_40 + "1 0 1", "0 0 0 0 1");
        String runs = marks24();
        String ahead = NO_STYLE + "40 " + runs.substring(0, runs.length() - "0 1 0 23 0 0 1 97 ".length())
                + "0 1 1 1 97 " + more(15);
        fault(ahead + "0 1", "0 22 0 0 1 97");
        fault(ahead + "0 1", "0 0 0 0 1 97");
    }

    static void theSameMarkAgainWithAnOldSet() {
        String ahead = NO_STYLE + "2 0 0 0 0 4 5 1 1 7 1 1 97 1 0 1";
        fault(ahead, "0 4 5 3 1");
        String own = NO_STYLE + "2 0 0 0 0 4 5 2 1 97 1 0 1";
        fault(own, "0 4 5 2 1");
        answers(Start.file(own + " 0 4 5 0 1"), 0, x -> x.open());
        answers(Start.file(ahead + " 0 4 5 2 1"), 0, x -> x.open());
    }

    /** It is told when the old one is read: ahead of what comes next, behind what is wrong in it. */
    static void theSameMarkAgainIsToldBehindItsOldSet() {
        fault(AT_RUN_2 + "1 0 1", "0 0 0 0");
        fault(AT_RUN_2 + "1 0 1", "0 0 0 0 0");
        fault(AT_RUN_2 + "1 0 1", "0 0 0 0 128");
        fault(AT_RUN_2 + "1 0 1 0 0 0", "");
        fault(AT_RUN_2 + "1 0 1 0 0 0", "128");
        fault(AT_RUN_2 + "1 0 1 0 0 0", "1 0 1");
        fault(AT_RUN_2 + "1 0 1 0 0 0", "3 1");
    }

    /** A run that goes on with the one before by a mark that is the same is the fault of the mark. */
    static void theSameMarkIsToldAheadOfTheSameRun() {
        fault(AT_RUN_2 + "0 1", "0 0 0 0 1 98");
    }

    // The run before has the same.

    static void theSameRunAgainFirst() {
        fault(AT_RUN_2, "0 1 1 1 98");
        fault(NO_STYLE + "2 1 0 0 0 0 0 0 0 1", "1 0 1 1 1");
        fault(HEAD + "2 0 0 0 0 2 1 1 0 0 0 0 0 0 1", "1 1 1 1 1");
    }

    static void theSameRunAgainLast() {
        fault(AT_RUN_40, "0 1 1 1 97");
        fault(NO_STYLE + "40 1 0 0 0 0 0 0 0 1 " + more(39).substring("1 0 1 1 1 ".length()), "1 0 1 1 1");
        fault(NO_STYLE + "40 " + setsInPairs() + more(27), "1 0 1 1 1");
    }

    /** It is told when the mark is read: ahead of the characters, behind what is wrong in the run so far. */
    static void theSameRunAgainIsToldBehindItsMark() {
        fault(AT_RUN_2, "0 1 1");
        fault(AT_RUN_2, "0 1 1 0");
        fault(AT_RUN_2, "0 1 1 128");
        fault(AT_RUN_2, "0 1 1 1 10");
        fault(AT_RUN_2 + "0 1", "");
        fault(AT_RUN_2 + "0 1", "2");
        fault(AT_RUN_2 + "0", "2 1");
    }

    // Something behind the runs.

    static void somethingBehindAFileWithoutRuns() {
        for (int octet : new int[] {0, 1, 77, 128, 255}) {
            fault(NO_STYLE + "0", octet + "");
        }
        fault(NO_STYLE + "0", "0 0 0 0");
        fault(STYLES_16 + "0", "0");
    }

    static void somethingBehindTheRuns() {
        fault(NO_STYLE + "1 " + FIRST, "97");
        fault(NO_STYLE + "1 " + FIRST, "1 0 1 1 1");
        fault(AT_RUN_40 + "1 0 1 1 1", "0");
        fault(NO_STYLE + "39 " + FIRST + more(38), "1 0 1 1 1");
        int n = lengthOfFull();
        for (int octet : new int[] {0, 65, 128, 255}) {
            faultOfFull(n, x -> x.alter(n, octet));
        }
    }

    // The document that stays.

    static void aFullDocumentStays() {
        for (int n = 0; n < 5; n++) {
            int bytes = n;
            refused(Start.FULL.then(x -> x.cut(bytes)), n + 1, x -> x.open());
        }
        refused(Start.FULL.then(Start.file(STYLES_16 + "1 " + FIRST + "0")), 47, x -> x.open());
    }

    static void anEmptyDocumentStays() {
        refused(Start.file(STYLES_16 + "1 " + FIRST + "0"), 47, x -> x.open());
        refused(Start.file(AT_RUN_40), 205, x -> x.open());
    }

    static void aDocumentThatWasOpenedStays() {
        State opened = Start.file(HEAD + "1 0 1 3 1 1 " + FIRST).then(x -> x.open());
        refused(opened.then(x -> x.alter(18, 0)), 19, x -> x.open());
        // Two styles make a style of the run's first two bytes, and no runs of the third.
        refused(opened.then(x -> x.alter(3, 2)), 12, x -> x.open());
    }

    static void faultsDoNotAddUp() {
        State twice = Start.SMALL.then(Start.file(AT_RUN_40)).then(x -> x.open());
        refused(twice, 205, x -> x.open());
    }
}
