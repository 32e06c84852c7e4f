/** Promise 15: the bytes that a document becomes. */
public final class SaveTest {
    private static final Check CHECK = new Check();

    public static void main(String[] args) {
        CHECK.due("an empty document", saved(new DocumentFile()), "77 83 1 0 0");
        CHECK.due("the sample", saved(Sample.small()),
                "77 83 1 2 0 0 1 1 16 133 80 3 0 0 0 0 0 0 0 5 72 101 108 108 111"
                + " 1 2 1 1 2 0 0 1 3 1 0 7 9 3 3 121 111 117");
        documentStays();
        numbers();
        properties();
        sets();
        setsThatDiffer();
        marks();
        olds();
        joined();
        notJoined();
        largest();
        CHECK.finish();
    }

    /** The file of a document; save must answer its length, and answer it again. */
    private static String saved(DocumentFile x) {
        int bytes = x.save();
        CHECK.due("count(5) after save", x.count(5), bytes);
        String file = Sample.file(x);
        CHECK.due("save() again", x.save(), bytes);
        CHECK.due("the file again", Sample.file(x), file);
        return file;
    }

    private static DocumentFile withSetAndMark() {
        DocumentFile x = new DocumentFile();
        x.set();
        x.mark(0, 0, -1);
        return x;
    }

    private static void documentStays() {
        DocumentFile x = Sample.small();
        x.type(0, 0, 'a');
        x.type(0, 0, 'b');
        String document = Sample.document(x);
        x.save();
        CHECK.due("the document after save", Sample.document(x), document);
    }

    private static void numbers() {
        int[] n = {0, 1, 127, 128, 129, 255, 256, 16383, 16384, 16385, 32768, 65535};
        String[] written = {"0", "1", "127", "129 0", "129 1", "129 127", "130 0", "255 127", "129 128 0",
            "129 128 1", "130 128 0", "131 255 127"};
        for (int i = 0; i < n.length; i++) {
            DocumentFile x = new DocumentFile();
            x.style(-1);
            x.property(0, 0, 20, n[i]);
            CHECK.due("the number " + n[i], saved(x), "77 83 1 1 0 1 20 " + written[i] + " 0");
        }
        int[] lengths = {1, 127, 128, 511, 512};
        String[] lengthsWritten = {"1", "127", "129 0", "131 127", "132 0"};
        for (int i = 0; i < lengths.length; i++) {
            DocumentFile x = withSetAndMark();
            x.end(0, 0, -1, lengths[i]);
            CHECK.due("an end run", saved(x), "77 83 1 0 1 1 0 0 0 0 0 0 0 " + lengthsWritten[i]);
        }
    }

    private static void properties() {
        DocumentFile x = new DocumentFile();
        x.style(-1);
        x.style(0);
        x.style(0);
        x.property(0, 1, 23, 128);
        x.property(0, 1, 8, 200);
        x.property(0, 1, 0, 0);
        x.property(0, 1, 9, 3);
        x.property(0, 1, 9, -1);
        CHECK.due("properties by rising number", saved(x), "77 83 1 3 0 0 1 3 0 0 8 129 72 23 129 0 1 0 0");
    }

    private static void sets() {
        DocumentFile x = withSetAndMark();
        x.set();
        x.set();
        x.set();
        x.property(1, 0, 1, 1);
        x.property(1, 2, 1, 1);
        x.property(1, 3, 1, 0);
        // Sets are numbered as they stand in the runs, and one that no run comes to is not written.
        x.end(3, 0, -1, 1);
        x.type(0, 0, 'a');
        x.end(2, 0, -1, 1);
        x.type(3, 0, 'b');
        CHECK.due("sets by what they have", saved(x), "77 83 1 0 4"
                + " 1 0 0 1 1 0 0 0 0 0 1"
                + " 0 0 1 1 1 1 1 97"
                + " 1 0 2 1 1"
                + " 0 1 1 1 98");
        x.property(1, 2, 1, 0);
        CHECK.due("a set with another property", saved(x), "77 83 1 0 4"
                + " 1 0 0 1 1 0 0 0 0 0 1"
                + " 0 0 1 1 1 1 1 97"
                + " 1 0 1 1 1"
                + " 0 1 1 1 98");
    }

    /** Two sets that differ in one property alone, in its value or in whether it is there. */
    private static void setsThatDiffer() {
        for (int p = 0; p < 24; p++) {
            DocumentFile x = withSetAndMark();
            x.set();
            x.property(1, 0, p, 1);
            x.property(1, 1, p, 0);
            x.type(0, 0, 'a');
            x.type(1, 0, 'b');
            String start = "77 83 1 0 2 0 0 1 " + p + " 1 0 0 0 0 1 97 0 0 ";
            CHECK.due("sets with other values", saved(x), start + "1 " + p + " 0 1 1 98");
            x.property(1, 1, p, -1);
            CHECK.due("sets with and without", saved(x), start + "0 1 1 98");
            x.property(1, 1, p, 1);
            CHECK.due("sets with the same", saved(x), "77 83 1 0 1 0 0 1 " + p + " 1 0 0 0 0 2 97 98");
        }
    }

    private static void marks() {
        DocumentFile x = new DocumentFile();
        x.set();
        x.mark(1, 2, -1);
        x.mark(1, 2, -1);
        x.mark(2, 1, -1);
        x.mark(255, 128, -1);
        x.mark(0, 0, -1);
        x.type(0, 3, 'a');
        x.type(0, 1, 'b');
        x.type(0, 2, 'c');
        x.end(0, 0, -1, 1);
        CHECK.due("marks by what they have", saved(x), "77 83 1 0 4"
                + " 0 0 0 0 129 127 129 0 0 1 97"
                + " 0 1 0 1 2 0 1 98"
                + " 0 1 0 2 1 0 1 99"
                + " 1 0 1 2 1");
    }

    private static void olds() {
        DocumentFile x = new DocumentFile();
        for (int i = 0; i < 4; i++) {
            x.set();
        }
        x.property(1, 1, 5, 1);
        x.property(1, 2, 5, 1);
        x.mark(0, 0, 1);
        x.mark(0, 0, 3);
        x.mark(0, 0, 2);
        x.mark(0, 0, -1);
        x.mark(0, 1, 2);
        x.type(0, 0, 'a');
        x.type(0, 1, 'b');
        x.type(2, 2, 'c');
        x.type(3, 3, 'd');
        x.type(3, 4, 'e');
        CHECK.due("olds by what they have", saved(x), "77 83 1 0 5"
                + " 0 0 0 0 0 0 1 1 5 1 1 97"
                + " 0 1 0 0 0 2 1 98"
                + " 0 2 1 1 99"
                + " 0 1 0 0 0 0 1 100"
                + " 0 1 0 0 1 3 1 101");
    }

    private static void joined() {
        DocumentFile x = withSetAndMark();
        x.set();
        x.set();
        x.style(-1);
        x.mark(0, 0, -1);
        x.mark(1, 1, 0);
        x.mark(1, 1, 1);
        x.type(0, 0, Sample.text("abcdefgh"));
        x.type(1, 0, 'i');
        x.type(2, 1, 'j');
        x.type(0, 2, 'k');
        x.type(0, 3, 'l');
        x.end(0, 2, 0, 5);
        x.end(1, 3, 0, 495);
        CHECK.due("neighbours become one", saved(x), "77 83 1 1 0 0 3"
                + " 0 0 0 0 0 0 0 10 97 98 99 100 101 102 103 104 105 106"
                + " 0 1 0 1 1 2 2 107 108"
                + " 1 1 1 2 131 116");
        CHECK.due("the document keeps its runs", x.count(3), 7);
    }

    private static void notJoined() {
        DocumentFile x = withSetAndMark();
        x.set();
        x.property(1, 1, 7, 0);
        x.style(-1);
        x.style(-1);
        x.mark(0, 0, 0);
        x.end(0, 0, -1, 1);
        x.end(0, 0, 0, 1);
        x.end(0, 0, 1, 1);
        x.type(0, 0, 'a');
        x.end(0, 0, -1, 1);
        x.type(0, 0, 'b');
        x.type(1, 0, 'c');
        x.type(1, 1, 'd');
        x.type(1, 0, 'e');
        CHECK.due("runs that stay apart", saved(x), "77 83 1 2 0 0 0 0 9"
                + " 1 0 0 0 0 0 0 0 1"
                + " 1 1 1 1 1"
                + " 1 2 1 1 1"
                + " 0 1 1 1 97"
                + " 1 0 1 1 1"
                + " 0 1 1 1 98"
                + " 0 0 1 7 0 1 1 99"
                + " 0 2 0 0 0 2 1 100"
                + " 0 2 1 1 101");
    }

    /** A document with all that one may have; it takes more calls than the document promises. */
    private static void largest() {
        DocumentFile x = new DocumentFile();
        for (int k = 0; k < 24; k++) {
            x.set();
            fill(x, 1, k);
            x.property(1, k, 16, 16384 + k);
            if (k < 16) {
                x.style(k - 1);
                fill(x, 0, k);
            }
        }
        for (int k = 0; k < 24; k++) {
            x.mark(255, 255 - k, k);
        }
        for (int i = 0; i < 39; i++) {
            x.type(i % 24, i % 24, Sample.text("ABCDEFGH"));
        }
        x.end(23, 23, 15, 200);
        String document = Sample.document(x);
        int writtenOut = 16 * 74 + 24 * 74 + 24 * 6;
        int textRuns = 39 * 2 + 15 * 2 + 39 * 8;
        CHECK.due("the largest document", x.save(), 3 + 1 + 1 + writtenOut + textRuns + 6);
        CHECK.due("it opens", x.open(), 0);
        CHECK.due("the same document", Sample.document(x), document);
    }

    private static void fill(DocumentFile x, int of, int k) {
        for (int p = 0; p < 24; p++) {
            x.property(of, k, p, p < 8 ? 1 : p < 16 ? 255 : 65535);
        }
    }
}
