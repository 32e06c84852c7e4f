/** "Terms", sentence by sentence, from "OPENING" on: how a file is read, and where its first fault is. */
public final class TermsOpeningTest extends Cases {
    /** A file of one text run, up to how many characters it has. */
    private static final String RUN = "77 83 1 0 1 0 0 0 0 0 0 0 ";
    /** A file of two runs, ahead of the second one. */
    private static final String SECOND = "77 83 1 0 2 0 0 0 0 0 0 0 1 97 ";

    public static void main(String[] args) {
        run(TermsOpeningTest.class);
    }

    /** The first fault of a file has its place behind the bar. */
    private static void fault(String bytes) {
        int bar = bytes.indexOf('|');
        String ahead = bytes.substring(0, bar).trim();
        int place = ahead.isEmpty() ? 0 : ahead.split(" +").length;
        State state = Start.SMALL.then(Start.file(bytes.replace("|", " ")));
        refused(state, place + 1, x -> x.open());
    }

    private static State opened(String bytes) {
        State file = Start.SMALL.then(Start.file(bytes));
        answers(file, 0, x -> x.open());
        return file.then(x -> x.open());
    }

    @Says("OPENING. A file is read item by item (the first three bytes, numbers, characters).")
    static void aFileIsReadItemByItem() {
        // Bytes 129 127 are one number of a mark, and two characters are no digits of a number.
        Counted x = at(opened("77 83 1 0 1 0 0 0 0 129 127 129 0 0 2 200 97"));
        due(255, x.changes(0, 0));
        due(128, x.changes(0, 1));
        due(2, x.count(4));
        due(200, x.at(0));
        due(97, x.at(1));
        fault("77 | 129 1 0 0");
    }

    /** Of two faults the one that is read first is told, whichever of them is mended. */
    @Says("It ends with the first FAULT, which has a PLACE, that of the first byte of an item:")
    static void itEndsWithTheFirstFault() {
        fault("| 0 0 0 0 0");
        fault("77 83 | 2 17 0");
        fault("77 83 1 | 17 0 41");
        fault("77 83 1 1 0 1 16 | 132 128 0 0 9");
        fault("77 83 1 1 0 1 16 131 255 127 0 | 9");
        fault(SECOND + "| 0 1 1 0");
        fault(SECOND + "1 0 1 1 | 0 7");
        fault(SECOND + "1 0 1 1 1 | 7");
    }

    @Says("An item that isn't there as a whole,")
    static void anItemThatIsNotThereAsAWhole() {
        String file = RUN + "2 97 98";
        String[] bytes = file.split(" +");
        StringBuilder ahead = new StringBuilder();
        for (String octet : bytes) {
            fault(ahead + "|");
            ahead.append(octet).append(' ');
        }
        answers(Start.file(file), 0, x -> x.open());
        fault("77 83 1 1 0 1 16 | 131");
        fault("77 83 1 1 0 1 16 | 131 255");
        answers(Start.file("77 83 1 1 0 1 16 131 255 127 0"), 0, x -> x.open());
    }

    @Says("a number that begins with a digit 0 and isn't 0, or is above 65535,")
    static void aNumberThatBeginsWith0OrIsAbove65535() {
        fault("77 83 1 | 128 1 0 0 0");
        fault("77 83 1 1 0 1 16 | 128 129 0 0");
        fault("77 83 1 1 0 1 16 | 132 128 0 0");
        fault("77 83 1 1 0 1 16 | 129 128 128 0 0");
        fault("77 83 1 1 0 1 16 | 144 128 128 128 0 0");
        answers(opened("77 83 1 1 0 1 16 131 255 127 0"), 65535, x -> x.value(0, 0, 16));
        answers(opened("77 83 1 1 0 1 16 0 0"), 0, x -> x.value(0, 0, 16));
    }

    @Says("or an item that isn't as told here: another byte than one of the first three;")
    static void anotherByteThanOneOfTheFirstThree() {
        for (int octet = 0; octet < 256; octet++) {
            if (octet != 77) {
                answers(Start.file(octet + " 83 1 0 0"), 1, x -> x.open());
            }
            if (octet != 83) {
                answers(Start.file("77 " + octet + " 1 0 0"), 2, x -> x.open());
            }
            if (octet != 1) {
                answers(Start.file("77 83 " + octet + " 0 0"), 3, x -> x.open());
            }
        }
    }

    @Says("more than 16 styles or 40 runs;")
    static void moreThan16StylesOr40Runs() {
        fault("77 83 1 | 17 " + "0 0 ".repeat(17) + "0");
        answers(opened("77 83 1 16 " + "0 0 ".repeat(16) + "0"), 16, x -> x.count(0));
        String runs = "0 0 0 0 0 0 0 1 97 " + "1 0 1 1 1 0 1 1 1 97 ".repeat(19) + "1 0 1 1 1 ";
        fault("77 83 1 0 | 41 " + runs + "0 1 1 1 97");
        answers(opened("77 83 1 0 40 " + runs), 40, x -> x.count(3));
    }

    @Says("no character or more than 512 in all;")
    static void noCharacterOrMoreThan512() {
        fault(RUN + "| 0");
        fault(SECOND + "1 0 1 1 | 0");
        fault("77 83 1 0 1 1 0 0 0 0 0 0 0 | 132 1");
        answers(opened("77 83 1 0 1 1 0 0 0 0 0 0 0 132 0"), 512, x -> x.count(4));
        fault(SECOND + "1 0 1 1 | 132 0");
        answers(opened(SECOND + "1 0 1 1 131 127"), 512, x -> x.count(4));
    }

    @Says("a base that is no style, or with which a style comes to itself along the bases read so far;")
    static void aBaseThatIsNoStyleOrComesToItself() {
        fault("77 83 1 3 0 0 | 4 0 0 0 0");
        fault("77 83 1 3 0 0 | 2 0 0 0 0");
        fault("77 83 1 3 2 0 3 0 | 1 0 0");
        fault("77 83 1 3 3 0 0 0 | 1 0 0");
        Counted x = at(opened("77 83 1 3 2 0 3 0 0 0 0"));
        due(1, x.base(0));
        due(2, x.base(1));
        due(-1, x.base(2));
    }

    @Says("more than 24 properties, one that is none or doesn't rise, a value above its most;")
    static void propertiesThatAreNotAsTold() {
        StringBuilder all = new StringBuilder();
        for (int p = 0; p < 24; p++) {
            all.append(p).append(" 1 ");
        }
        for (String ahead : new String[] {"77 83 1 1 0 ", "77 83 1 0 1 0 0 ", "77 83 1 0 1 0 0 0 0 0 0 1 "}) {
            fault(ahead + "| 25 " + all + "23 1 0");
            fault(ahead + "1 | 24 0 0");
            fault(ahead + "2 5 1 | 5 1 0");
            fault(ahead + "2 5 1 | 4 1 0");
            fault(ahead + "1 7 | 2 0");
            fault(ahead + "1 8 | 130 0 0");
            fault(ahead + "1 23 | 132 128 0 0");
        }
        Counted x = at(opened("77 83 1 1 0 24 " + all + "0"));
        for (int p = 0; p < 24; p++) {
            due(1, x.value(0, 0, p));
        }
        answers(opened("77 83 1 1 0 3 7 1 8 129 127 23 131 255 127 0"), 255, y -> y.value(0, 0, 8));
    }

    @Says("a kind above 1;")
    static void aKindAbove1() {
        fault("77 83 1 0 1 | 2 0 0 0 0 0 0 1 97");
        fault(SECOND + "| 2 0 1 1 1");
        fault(SECOND + "| 129 0 0 1 1 1");
    }

    @Says("a style that isn't there;")
    static void aStyleThatIsNotThere() {
        fault("77 83 1 0 1 1 | 1 0 0 0 0 0 0 1");
        fault("77 83 1 2 0 0 0 0 1 1 | 3 0 0 0 0 0 0 1");
        answers(opened("77 83 1 2 0 0 0 0 1 1 2 0 0 0 0 0 0 1"), 1, x -> x.run(0, 3));
        answers(opened("77 83 1 2 0 0 0 0 1 1 0 0 0 0 0 0 0 1"), -1, x -> x.run(0, 3));
    }

    /** Runs whose sets, or whose marks, are all the 24 that there may be. */
    private static String written24(String ahead, String behind) {
        StringBuilder runs = new StringBuilder("0 0 0 0 0 0 0 1 97 ");
        for (int i = 1; i < 24; i++) {
            runs.append(ahead).append(i).append(behind);
        }
        return runs.toString();
    }

    @Says("a 25th set or mark written out, or the number of none so far;")
    static void a25thSetOrMarkOrTheNumberOfNone() {
        String sets = "77 83 1 0 25 " + written24("0 0 1 8 ", " 1 1 97 ");
        fault(sets + "0 | 0 1 8 99 1 1 97");
        fault(sets + "0 1 0 1 0 | 1 1 8 99 1 97");
        fault(sets + "0 | 25 1 1 97");
        fault(sets + "0 1 0 1 0 | 26 1 97");
        answers(opened(sets + "1 0 24 1 1"), 23, x -> x.run(24, 1));
        answers(opened(sets + "0 1 0 1 0 25 1 97"), 23, x -> x.changes(1, 2));
        String marks = "77 83 1 0 25 " + written24("0 1 0 ", " 0 0 1 97 ");
        fault(marks + "0 1 | 0 99 0 0 1 97");
        fault(marks + "0 1 | 25 1 97");
        answers(opened(marks + "1 0 1 24 1"), 23, x -> x.run(24, 2));
        fault("77 83 1 0 1 0 | 1 0 0 0 0 1 97");
        fault("77 83 1 0 1 0 0 0 | 1 1 97");
        fault("77 83 1 0 1 0 0 0 0 0 0 | 3 1 97");
    }

    @Says("inserted or erased above 255;")
    static void insertedOrErasedAbove255() {
        fault("77 83 1 0 1 0 0 0 0 | 130 0 0 0 1 97");
        fault("77 83 1 0 1 0 0 0 0 129 127 | 130 0 0 1 97");
        State most = opened("77 83 1 0 1 0 0 0 0 129 127 129 127 0 1 97");
        answers(most, 255, x -> x.changes(0, 0));
        answers(most, 255, x -> x.changes(0, 1));
    }

    @Says("a character that isn't one of a text run.")
    static void aCharacterThatIsNoneOfATextRun() {
        for (int c = 0; c < 256; c++) {
            boolean text = c == 9 || c == 12 || c >= 32 && c <= 126 || c >= 160;
            State file = Start.file(RUN + "3 97 " + c + " 98");
            answers(file, text ? 0 : 14 + 1, x -> x.open());
            answers(file.then(x -> x.open()), text ? c : -1, x -> x.at(1));
        }
    }

    @Says("The place is that of this item (the number of bytes, if it would begin behind the last one).")
    static void thePlaceIsThatOfTheItem() {
        fault("|");
        fault("77 83 1 |");
        fault("77 83 1 2 0 0 |");
        fault(RUN + "2 97 |");
        fault("77 83 1 1 0 1 9 | 130 0 0");
        fault("77 83 1 1 0 1 9 | 130");
        fault("77 83 1 1 0 2 9 129 127 | 9 0 0");
    }

    @Says("When all properties of a set that is written out are read: one with the same was written before. The "
            + "place is that of the 0 (or the 1, of an old one) ahead of it.")
    static void aSetWithTheSameWasWrittenBefore() {
        String ahead = "77 83 1 0 2 0 0 2 3 1 9 4 0 0 0 0 1 97 1 0 ";
        fault(ahead + "| 0 2 3 1 9 4 1 1");
        fault(ahead + "1 0 0 1 | 1 2 3 1 9 4 1");
        fault("77 83 1 0 1 0 0 0 0 0 0 | 1 0 1 97");
        // It is a fault when they are read: a wrong one of them comes first, what stands behind them later.
        fault(ahead + "0 2 3 1 9 |");
        fault(ahead + "0 2 3 1 | 3 4 1 1");
        fault(SECOND + "1 0 0 1 | 24 0 1 1");
        fault(ahead + "| 0 2 3 1 9 4 128");
        answers(opened(ahead + "0 2 3 1 9 5 1 1"), 5, x -> x.value(1, 1, 9));
    }

    @Says("When the old one of a mark that is written out is read: a mark with the same was written before. The "
            + "place is that of the 0 ahead of it.")
    static void aMarkWithTheSameWasWrittenBefore() {
        fault(SECOND + "1 0 1 | 0 0 0 0 1");
        fault("77 83 1 0 2 0 0 0 0 4 5 1 1 7 1 1 97 1 0 1 | 0 4 5 3 1");
        fault(SECOND + "1 0 1 0 0 0 |");
        fault(SECOND + "1 0 1 0 0 0 | 3 1");
        fault(SECOND + "1 0 1 0 0 0 | 1 0 1");
        fault(SECOND + "1 0 1 | 0 0 0 0 0");
        answers(opened(SECOND + "1 0 1 0 0 0 2 1"), 0, x -> x.changes(1, 2));
    }

    @Says("When the mark of a run is read: the run before has the same kind, style, set and mark (as above). The "
            + "place is that of the run's first item.")
    static void theRunBeforeHasTheSame() {
        fault(SECOND + "| 0 1 1 1 98");
        fault(SECOND + "| 0 1 1 0");
        fault(SECOND + "| 0 1 1");
        fault(SECOND + "0 1 | 2 1 98");
        fault(SECOND + "0 1 | 0 0 0 0 1 98");
        String ends = "77 83 1 2 0 0 0 0 2 1 2 0 0 0 0 0 0 1 ";
        fault(ends + "| 1 2 1 1 1");
        answers(opened(ends + "1 1 1 1 1"), 2, x -> x.count(3));
        answers(opened(SECOND + "1 0 1 1 1"), 2, x -> x.count(3));
        answers(opened(SECOND + "0 0 1 0 0 1 1 98"), 2, x -> x.count(3));
        answers(opened(SECOND + "0 1 0 0 1 0 1 98"), 2, x -> x.count(3));
    }

    @Says("When all runs are read: something comes behind them. The place is that of its first byte.")
    static void somethingComesBehind() {
        fault("77 83 1 0 0 | 0");
        fault("77 83 1 0 0 | 128");
        fault(RUN + "1 97 | 98");
        fault(RUN + "1 97 | 1 0 1 1 1");
    }

    @Says("A file without a fault opens: the document has its styles, its sets and marks by their numbers (less 1), "
            + "and its runs.")
    static void aFileWithoutAFaultOpens() {
        State due = x -> {
            x.style(-1);
            x.style(0);
            x.property(0, 1, 20, 200);
            x.set();
            x.property(1, 0, 8, 3);
            x.set();
            x.property(1, 1, 0, 0);
            x.set();
            x.mark(7, 8, 1);
            x.mark(0, 0, -1);
            x.type(0, 0, Start.text("ab"));
            x.end(2, 1, 1, 4);
            x.end(1, 0, -1, 1);
            x.mark(7, 8, 0);
            x.type(0, 2, 255);
        };
        State opened = opened("77 83 1 2 0 0 1 1 20 129 72 4 0 0 1 8 3 0 7 8 1 1 0 0 2 97 98"
                + " 1 2 0 0 0 0 0 0 4 1 0 2 1 1 0 1 0 7 8 2 1 255");
        same("what opened", Look.document(due), Look.document(opened));
        same("its file", Look.file(opened), Look.file(opened.then(x -> x.save())));
    }
}
