/** Promises 17 to 19: the calls on the bytes of the file. */
public final class BytesTest {
    private static final Check CHECK = new Check();
    private static final int LEAST = Integer.MIN_VALUE;
    private static final int MOST = Integer.MAX_VALUE;

    public static void main(String[] args) {
        octet();
        alter();
        alterRefused();
        full();
        cut();
        CHECK.finish();
    }

    private static void octet() {
        DocumentFile x = Sample.small();
        int[] bytes = {77, 83, 1, 0, 0, -1, -1};
        for (int i = 0; i < bytes.length; i++) {
            CHECK.due("octet(" + i + ")", x.octet(i), bytes[i]);
        }
        int[] wrong = {LEAST, -1, 5, 6, 5999, 6000, MOST};
        for (int place : wrong) {
            CHECK.due("octet(" + place + ")", x.octet(place), -1);
        }
    }

    private static void alter() {
        DocumentFile x = Sample.small();
        String document = Sample.document(x);
        int[] values = {0, 1, 127, 128, 255, 256, 257, 511, -1, -128, -256, -257, LEAST, MOST, LEAST + 5};
        int[] bytes = {0, 1, 127, 128, 255, 0, 1, 255, 255, 128, 0, 255, 0, 255, 5};
        for (int i = 0; i < values.length; i++) {
            CHECK.due("alter(2, " + values[i] + ")", x.alter(2, values[i]), true);
            CHECK.due("octet(2)", x.octet(2), bytes[i]);
            CHECK.due("count(5)", x.count(5), 5 + i);
            CHECK.due("alter(" + (5 + i) + ", " + values[i] + ")", x.alter(5 + i, values[i]), true);
            CHECK.due("octet(" + (5 + i) + ")", x.octet(5 + i), bytes[i]);
        }
        CHECK.due("the file", Sample.file(x), "77 83 5 0 0 0 1 127 128 255 0 1 255 255 128 0 255 0 255 5");
        CHECK.due("alter(0, 9)", x.alter(0, 9), true);
        CHECK.due("octet(0)", x.octet(0), 9);
        CHECK.due("the document", Sample.document(x), document);
        DocumentFile y = new DocumentFile();
        CHECK.due("alter(1, 3) of no bytes", y.alter(1, 3), false);
        CHECK.due("alter(0, 3) of no bytes", y.alter(0, 3), true);
        CHECK.due("the file", Sample.file(y), "3");
    }

    private static void alterRefused() {
        int[] wrong = {LEAST, -2, -1, 6, 7, 5999, 6000, 6001, MOST};
        for (int place : wrong) {
            DocumentFile x = Sample.small();
            CHECK.due("alter(" + place + ", 9)", x.alter(place, 9), false);
            CHECK.due("all after it", Sample.all(x), Sample.all(Sample.small()));
        }
    }

    /** This edge lies beyond the 512 calls that the document promises; it is looked at all the same. */
    private static void full() {
        DocumentFile x = new DocumentFile();
        for (int i = 0; i < 6000; i++) {
            CHECK.due("alter(" + i + ", " + i + ")", x.alter(i, i), true);
        }
        CHECK.due("a 6001st byte", x.alter(6000, 1), false);
        CHECK.due("count(5)", x.count(5), 6000);
        CHECK.due("octet(6000)", x.octet(6000), -1);
        CHECK.due("octet(5999)", x.octet(5999), 5999 & 255);
        CHECK.due("alter(5999, 9)", x.alter(5999, 9), true);
        CHECK.due("octet(5999)", x.octet(5999), 9);
        CHECK.due("cut(6001)", x.cut(6001), false);
        CHECK.due("cut(6000)", x.cut(6000), true);
        CHECK.due("count(5)", x.count(5), 6000);
        CHECK.due("cut(5999)", x.cut(5999), true);
        CHECK.due("alter(5999, 8)", x.alter(5999, 8), true);
        CHECK.due("save()", x.save(), 5);
    }

    private static void cut() {
        int[] wrong = {LEAST, -2, -1, 6, 7, 6000, MOST};
        for (int n : wrong) {
            DocumentFile x = Sample.small();
            CHECK.due("cut(" + n + ")", x.cut(n), false);
            CHECK.due("all after it", Sample.all(x), Sample.all(Sample.small()));
        }
        DocumentFile x = Sample.small();
        String document = Sample.document(x);
        CHECK.due("cut(5)", x.cut(5), true);
        CHECK.due("the file", Sample.file(x), "77 83 1 0 0");
        CHECK.due("cut(2)", x.cut(2), true);
        CHECK.due("the file", Sample.file(x), "77 83");
        CHECK.due("octet(2)", x.octet(2), -1);
        CHECK.due("cut(3)", x.cut(3), false);
        CHECK.due("alter(3, 1)", x.alter(3, 1), false);
        CHECK.due("alter(2, 4)", x.alter(2, 4), true);
        CHECK.due("the file", Sample.file(x), "77 83 4");
        CHECK.due("cut(0)", x.cut(0), true);
        CHECK.due("count(5)", x.count(5), 0);
        CHECK.due("cut(0)", x.cut(0), true);
        CHECK.due("the document", Sample.document(x), document);
    }
}
