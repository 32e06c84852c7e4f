import java.io.IOException;
import java.lang.reflect.Method;
import java.nio.file.Files;
import java.nio.file.Path;

/**
 * "Terms", sentence by sentence, up to how a file is written; TermsOpeningTest goes on with how it is read. The
 * boundaries of each sentence are looked at one by one in the tests of the promises that come to them.
 */
public final class TermsTest extends Cases {
    private static final Path DOCUMENT = Path.of("../shared/DOC.md");

    public static void main(String[] args) {
        run(TermsTest.class);
    }

    /** What the cases say is all that "Terms" says, no word more and none less. */
    static void eachSentenceHasACase() throws IOException {
        due(DOCUMENT + " being there", true, Files.exists(DOCUMENT));
        String left = terms();
        for (Class<?> test : new Class<?>[] {TermsTest.class, TermsOpeningTest.class}) {
            for (Method m : test.getDeclaredMethods()) {
                Says says = m.getAnnotation(Says.class);
                if (says != null) {
                    due("'" + says.value() + "' standing in the document", true, left.contains(says.value()));
                    left = left.replace(says.value(), "");
                }
            }
        }
        due("what no case says", "", left.replaceAll("[- ]+", " ").trim());
    }

    private static String terms() throws IOException {
        String document = Files.readString(DOCUMENT);
        int begin = document.indexOf("## Terms");
        int end = document.indexOf("## Promise 1:");
        due("the document having Terms", true, begin >= 0 && end > begin);
        return document.substring(begin, end).replace("## Terms", "").replaceAll("```(text)?", "")
                .replaceAll("\\s+", " ");
    }

    private static State property(int of, int k, int property, int value) {
        return x -> x.property(of, k, property, value);
    }

    private static State type(int set, int mark, String text) {
        return x -> x.type(set, mark, Start.text(text));
    }

    private static State end(int set, int mark, int style, int n) {
        return x -> x.end(set, mark, style, n);
    }

    private static State mark(int inserted, int erased, int old) {
        return x -> x.mark(inserted, erased, old);
    }

    private static void saved(State state, String bytes) {
        due("the file", bytes, bytes(state.then(x -> x.save())));
    }

    @Says("A DOCUMENT has STYLES 0, 1, .. (at most 16), SETS (at most 24), MARKS (at most 24) and RUNS (at most 40, "
            + "of at most 512 characters together).")
    static void aDocumentHasStylesSetsMarksAndRuns() {
        Counted x = new Counted();
        for (int i = 0; i < 24; i++) {
            due(i < 16 ? i : -1, x.style(-1));
            due(i, x.set());
            due(i, x.mark(0, 0, -1));
        }
        due(-1, x.set());
        due(-1, x.mark(0, 0, -1));
        for (int i = 1; i <= 40; i++) {
            due(i, x.type(i % 24, i % 24, 'a'));
        }
        due(-1, x.type(0, 0, 'a'));
        due(-1, x.end(0, 0, 0, 1));
        int[] most = {16, 24, 24, 40, 40};
        for (int what = 0; what < most.length; what++) {
            due(most[what], x.count(what));
        }
        Counted y = at(Start.PLAIN);
        due(1, y.end(0, 0, -1, 500));
        due(-1, y.end(0, 0, -1, 13));
        due(2, y.end(0, 0, -1, 12));
        due(-1, y.type(0, 0, 'a'));
        due(512, y.count(4));
    }

    @Says("A style has a BASE, a style or none (-1), and properties;")
    static void aStyleHasABaseAndProperties() {
        Counted x = new Counted();
        due(0, x.style(-1));
        due(1, x.style(0));
        due(-1, x.style(-2));
        due(-1, x.style(2));
        due(-1, x.base(0));
        due(0, x.base(1));
        due(true, x.property(0, 1, 16, 9));
        due(9, x.value(0, 1, 16));
        due(-1, x.value(0, 0, 16));
    }

    /** From each style of a document that calls made, and of one with later bases, the way ends at none. */
    @Says("no style comes to itself along bases.")
    static void noStyleComesToItself() {
        for (int n = 0; n < 16; n++) {
            int own = n;
            refused(Start.styles(n), -1, x -> x.style(own));
        }
        waysEnd(Start.styles(16));
        State laterBases = Start.file("77 83 1 4 3 0 0 0 4 0 2 0 0").then(x -> x.open());
        answers(laterBases, 2, x -> x.base(0));
        waysEnd(laterBases);
        refused(Start.SMALL.then(Start.file("77 83 1 4 3 0 0 0 4 0 1 0 0")), 10 + 1, x -> x.open());
    }

    private static void waysEnd(State state) {
        Counted x = at(state);
        int styles = x.count(0);
        for (int i = 0; i < styles; i++) {
            int style = i;
            for (int steps = 0; steps < styles && style >= 0; steps++) {
                style = x.base(style);
            }
            due(-1, style);
        }
    }

    @Says("A set has properties.")
    static void aSetHasProperties() {
        Counted x = at(Start.sets(2));
        due(true, x.property(1, 1, 23, 5));
        due(5, x.value(1, 1, 23));
        due(-1, x.value(1, 0, 23));
        due(101, x.value(1, 1, 8));
    }

    @Says("PROPERTIES 0 .. 23 have values 0 .. 1 (0 .. 7), 0 .. 255 (8 .. 15), 0 .. 65535 (16 .. 23), or are not "
            + "there.")
    static void propertiesHaveValuesOrAreNotThere() {
        int[] firsts = {0, 8, 16};
        int[] mosts = {1, 255, 65535};
        for (int of = 0; of <= 1; of++) {
            for (int group = 0; group < 3; group++) {
                for (int p = firsts[group]; p < firsts[group] + 8; p++) {
                    Counted x = at(Start.SMALL);
                    for (int value : new int[] {0, mosts[group], -1}) {
                        due(true, x.property(of, 0, p, value));
                        due(value, x.value(of, 0, p));
                    }
                    due(false, x.property(of, 0, p, mosts[group] + 1));
                    due(false, x.property(of, 0, p, -2));
                }
            }
            Counted x = at(Start.SMALL);
            due(false, x.property(of, 0, -1, 0));
            due(false, x.property(of, 0, 24, 0));
            due(-2, x.value(of, 0, -1));
            due(-2, x.value(of, 0, 24));
        }
    }

    @Says("A mark has INSERTED and ERASED, 0 .. 255, and OLD, a set or none (-1).")
    static void aMarkHasInsertedErasedAndOld() {
        Counted x = at(Start.sets(2));
        int[][] marks = {{0, 255, -1}, {255, 0, 0}, {7, 8, 1}};
        for (int k = 0; k < marks.length; k++) {
            due(k, x.mark(marks[k][0], marks[k][1], marks[k][2]));
            for (int what = 0; what < 3; what++) {
                due(marks[k][what], x.changes(k, what));
            }
        }
        due(-1, x.mark(256, 0, -1));
        due(-1, x.mark(-1, 0, -1));
        due(-1, x.mark(0, 256, -1));
        due(-1, x.mark(0, -1, -1));
        due(-1, x.mark(0, 0, 2));
        due(-1, x.mark(0, 0, -2));
    }

    @Says("A run has a set, a mark and 1 or more characters.")
    static void aRunHasASetAMarkAndCharacters() {
        Counted x = at(Start.sets(3).then(Start.marks(2)));
        due(1, x.type(2, 1, 'a'));
        due(2, x.end(1, 0, -1, 1));
        int[][] runs = {{0, 2, 1, -1, 0, 1}, {1, 1, 0, -1, 1, 1}};
        for (int k = 0; k < runs.length; k++) {
            for (int what = 0; what < 6; what++) {
                due(runs[k][what], x.run(k, what));
            }
        }
        due(-1, x.type(2, 1, 0));
        due(-1, x.end(2, 1, -1, 0));
        due(-1, x.type(3, 1, 'a'));
        due(-1, x.end(2, 2, -1, 1));
    }

    @Says("It is a TEXT run of characters 9, 12, 32 .. 126 and 160 .. 255, or an END run of characters 10 alone, "
            + "which has a style or none (-1), too.")
    static void itIsATextRunOrAnEndRun() {
        for (int c = 1; c < 256; c++) {
            int one = c;
            boolean text = c == 9 || c == 12 || c >= 32 && c <= 126 || c >= 160 && c <= 255;
            answers(Start.PLAIN, text ? 1 : -1, x -> x.type(0, 0, one));
        }
        Counted x = at(Start.styles(2).then(Start.PLAIN));
        due(1, x.type(0, 0, 'a'));
        due(2, x.end(0, 0, 1, 3));
        due(3, x.end(0, 0, -1, 1));
        due(-1, x.end(0, 0, 2, 1));
        int[] kinds = {0, 1, 1};
        int[] styles = {-1, 1, -1};
        for (int k = 0; k < 3; k++) {
            due(kinds[k], x.run(k, 0));
            due(styles[k], x.run(k, 3));
        }
        int[] characters = {'a', 10, 10, 10, 10, -1};
        for (int place = 0; place < characters.length; place++) {
            due(characters[place], x.at(place));
        }
    }

    @Says("Places of characters count over all runs.")
    static void placesCountOverAllRuns() {
        Counted x = at(Start.PLAIN.then(type(0, 0, "abc")).then(end(0, 0, -1, 2)).then(type(0, 0, "d")));
        int[] firsts = {0, 3, 5};
        for (int k = 0; k < 3; k++) {
            due(firsts[k], x.run(k, 4));
        }
        due((int) 'c', x.at(2));
        due(10, x.at(3));
        due((int) 'd', x.at(5));
        due(-1, x.at(6));
    }

    @Says("A NUMBER is written to the base 128, the highest digit first and not 0 (but for the number 0, which is "
            + "one digit 0); each digit is a byte, all but the last one with 128 more.")
    static void aNumberIsWrittenToTheBase128() {
        int[] numbers = {0, 1, 127, 128, 255, 256, 16383, 16384, 32768, 65535};
        String[] bytes = {"0", "1", "127", "129 0", "129 127", "130 0", "255 127", "129 128 0", "130 128 0",
            "131 255 127"};
        for (int i = 0; i < numbers.length; i++) {
            State state = Start.NEW.then(x -> x.style(-1)).then(property(0, 0, 16, numbers[i]));
            saved(state, "77 83 1 1 0 1 16 " + bytes[i] + " 0");
            State cleared = state.then(x -> x.save()).then(x -> x.clear());
            answers(cleared, 0, x -> x.open());
            answers(cleared.then(x -> x.open()), numbers[i], x -> x.value(0, 0, 16));
        }
        // A first digit 0 is that of the number 0 alone, which has no other digit.
        refused(Start.SMALL.then(Start.file("77 83 1 1 0 1 16 128 0 0")), 7 + 1, x -> x.open());
        refused(Start.SMALL.then(Start.file("77 83 1 1 0 1 16 128 1 0")), 7 + 1, x -> x.open());
    }

    @Says("PROPERTIES are written as the number of them, and then for each, by rising number, its number and its "
            + "value.")
    static void propertiesAreWrittenByRisingNumber() {
        State given = property(0, 0, 20, 300).then(property(0, 0, 9, 0)).then(property(0, 0, 3, 1))
                .then(property(0, 0, 12, 4)).then(property(0, 0, 12, -1));
        saved(Start.NEW.then(x -> x.style(-1)).then(given), "77 83 1 1 0 3 3 1 9 0 20 130 44 0");
    }

    @Says("A FILE: the bytes 77, 83, 1; the number of styles; for each the number of its base plus 1 (0 for none) "
            + "and its properties; the number of runs; the runs.")
    static void aFileHasStylesAndRuns() {
        saved(Start.NEW, "77 83 1 0 0");
        State styles = x -> {
            x.style(-1);
            x.style(0);
            x.style(1);
            x.property(0, 1, 5, 1);
        };
        saved(styles, "77 83 1 3 0 0 1 1 5 1 2 0 0");
        saved(styles.then(Start.PLAIN).then(type(0, 0, "a")).then(end(0, 0, -1, 1)),
                "77 83 1 3 0 0 1 1 5 1 2 0 2 0 0 0 0 0 0 0 1 97 1 0 1 1 1");
    }

    @Says("A RUN: 0 for a text run, 1 for an end run; in an end run the number of its style plus 1 (0 for none); "
            + "its set; its mark; how many characters; in a text run these.")
    static void aRunIsWrittenByItsKind() {
        State plain = Start.NEW.then(x -> x.style(-1)).then(x -> x.style(-1)).then(Start.PLAIN);
        String ahead = "77 83 1 2 0 0 0 0 1 ";
        saved(plain.then(type(0, 0, "a\u00ff ")), ahead + "0 0 0 0 0 0 0 3 97 255 32");
        saved(plain.then(end(0, 0, -1, 300)), ahead + "1 0 0 0 0 0 0 0 130 44");
        saved(plain.then(end(0, 0, 0, 1)), ahead + "1 1 0 0 0 0 0 0 1");
        saved(plain.then(end(0, 0, 1, 1)), ahead + "1 2 0 0 0 0 0 0 1");
    }

    @Says("A SET is written where it stands first, as the number 0 and its properties;")
    static void aSetIsWrittenWhereItStandsFirst() {
        State sets = Start.sets(3).then(mark(0, 0, -1));
        saved(sets, "77 83 1 0 0");
        saved(sets.then(type(2, 0, "a")), "77 83 1 0 1 0 0 1 8 102 0 0 0 0 1 97");
    }

    @Says("such sets have NUMBERS 1, 2, .. in the file by the order in which they stand;")
    static void setsHaveNumbersByTheirOrder() {
        saved(Start.sets(3).then(mark(0, 0, -1)).then(type(2, 0, "a")).then(type(0, 0, "b")).then(type(1, 0, "c"))
                .then(end(2, 0, -1, 1)).then(end(0, 0, -1, 1)).then(end(1, 0, -1, 1)),
                "77 83 1 0 6 0 0 1 8 102 0 0 0 0 1 97 0 0 1 8 100 1 1 98 0 0 1 8 101 1 1 99"
                + " 1 0 1 1 1 1 0 2 1 1 1 0 3 1 1");
    }

    @Says("where one with the same properties stands again, that number is written.")
    static void aSetThatStandsAgainIsItsNumber() {
        State state = Start.sets(2).then(x -> x.set()).then(property(1, 2, 8, 100)).then(mark(0, 0, -1));
        String two = "77 83 1 0 3 0 0 1 8 100 0 0 0 0 1 97 0 0 1 8 101 1 1 98 0 ";
        State apart = state.then(type(0, 0, "a")).then(type(1, 0, "b"));
        saved(apart.then(type(0, 0, "c")), two + "1 1 1 99");
        saved(apart.then(type(2, 0, "c")), two + "1 1 1 99");
        saved(apart.then(property(1, 2, 9, 0)).then(type(2, 0, "c")), two + "0 2 8 100 9 0 1 1 99");
    }

    @Says("A MARK likewise: 0, then inserted, erased and old, where none is the number 0, and a set is 1 and the "
            + "properties where it stands first, else its number plus 1;")
    static void aMarkIsWrittenWhereItStandsFirst() {
        State state = Start.sets(2).then(mark(200, 3, -1)).then(mark(3, 200, 1)).then(mark(0, 0, 1))
                .then(mark(0, 0, 0));
        saved(state.then(type(0, 0, "a")).then(type(0, 1, "b")).then(type(0, 2, "c")).then(type(0, 3, "d")),
                "77 83 1 0 4 0 0 1 8 100 0 129 72 3 0 1 97 0 1 0 3 129 72 1 1 8 101 1 98"
                + " 0 1 0 0 0 3 1 99 0 1 0 0 0 2 1 100");
        saved(state.then(type(0, 1, "a")).then(type(1, 1, "b")),
                "77 83 1 0 2 0 0 1 8 100 0 3 129 72 1 1 8 101 1 97 0 2 1 1 98");
    }

    @Says("where a mark with the same stands again, its number (marks count for themselves).")
    static void aMarkThatStandsAgainIsItsNumber() {
        State state = Start.sets(2).then(x -> x.set()).then(property(1, 2, 8, 101)).then(mark(9, 8, 1))
                .then(mark(9, 8, -1)).then(mark(9, 8, 2));
        String two = "77 83 1 0 3 0 0 1 8 100 0 9 8 1 1 8 101 1 97 0 1 0 9 8 0 1 98 ";
        State apart = state.then(type(0, 0, "a")).then(type(0, 1, "b"));
        saved(apart.then(type(0, 0, "c")), two + "0 1 1 1 99");
        saved(apart.then(type(0, 2, "c")), two + "0 1 1 1 99");
        saved(apart.then(type(1, 1, "c")), two + "0 2 2 1 99");
        saved(apart.then(property(1, 2, 8, 7)).then(type(0, 2, "c")), two + "0 1 0 9 8 1 1 8 7 1 99");
    }

    @Says("Before it is written, runs of the same kind, set, mark and style (sets and marks by what they have, "
            + "styles by their number) that are neighbours become one.")
    static void neighboursBecomeOne() {
        State state = Start.NEW.then(x -> x.style(-1)).then(x -> x.style(-1)).then(Start.PLAIN).then(Start.PLAIN);
        String ahead = "77 83 1 2 0 0 0 0 ";
        String text = ahead + "1 0 0 0 0 0 0 0 ";
        State first = state.then(type(0, 0, "a"));
        saved(first.then(type(0, 0, "b")), text + "2 97 98");
        saved(first.then(type(1, 1, "b")), text + "2 97 98");
        State ends = state.then(end(0, 0, 0, 1));
        saved(ends.then(end(1, 1, 0, 2)), ahead + "1 1 1 0 0 0 0 0 0 3");
        String two = ahead + "2 0 0 0 0 0 0 0 1 97 ";
        saved(first.then(end(0, 0, -1, 1)), two + "1 0 1 1 1");
        saved(first.then(property(1, 1, 0, 0)).then(type(1, 0, "b")), two + "0 0 1 0 0 1 1 98");
        saved(first.then(mark(0, 1, -1)).then(type(0, 2, "b")), two + "0 1 0 0 1 0 1 98");
        saved(ends.then(end(0, 0, 1, 1)), ahead + "2 1 1 0 0 0 0 0 0 1 1 2 1 1 1");
        saved(first.then(end(0, 0, -1, 1)).then(type(0, 0, "b")),
                ahead + "3 0 0 0 0 0 0 0 1 97 1 0 1 1 1 0 1 1 1 98");
    }

    /** One call of each kind that can be refused. */
    @Says("A call that is refused changes nothing.")
    static void aCallThatIsRefusedChangesNothing() {
        for (State state : new State[] {Start.SMALL, Start.FULL}) {
            refused(state, -1, x -> x.style(16));
            refused(state, false, x -> x.property(0, 1, 0, 2));
            refused(state, false, x -> x.property(1, 24, 0, 1));
            refused(state, -1, x -> x.mark(0, 256, 0));
            refused(state, -1, x -> x.type(0, 0, 0x0A61L));
            refused(state, -1, x -> x.end(0, 0, 0, 513));
            refused(state, false, x -> x.alter(6000, 1));
            refused(state, false, x -> x.cut(-1));
            refused(state.then(y -> y.alter(3, 17)), 4, x -> x.open());
        }
        refused(Start.FULL, -1, x -> x.style(-1));
        refused(Start.FULL, -1, x -> x.set());
        refused(Start.FULL, -1, x -> x.mark(0, 0, -1));
    }
}
