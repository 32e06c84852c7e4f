/** Promises 1 to 8: a new object, and the calls that build a document. */
public final class BuildTest {
    private static final Check CHECK = new Check();
    private static final int LEAST = Integer.MIN_VALUE;
    private static final int MOST = Integer.MAX_VALUE;

    public static void main(String[] args) {
        newObject();
        clear();
        style();
        set();
        property();
        mark();
        type();
        typedCharacters();
        typeAtTheEdges();
        end();
        endAtTheEdges();
        CHECK.finish();
    }

    /** What a call left must be what an object without this call has. */
    private static void unchanged(String call, DocumentFile x, DocumentFile without) {
        CHECK.due("all after " + call, Sample.all(x), Sample.all(without));
    }

    private static void newObject() {
        DocumentFile x = new DocumentFile();
        for (int what = 0; what <= 5; what++) {
            CHECK.due("new: count(" + what + ")", x.count(what), 0);
        }
        CHECK.due("new: octet(0)", x.octet(0), -1);
        CHECK.due("new: at(0)", x.at(0), -1);
        CHECK.due("new: open()", x.open(), 1);
        DocumentFile y = new DocumentFile();
        Sample.small();
        unchanged("another object's calls", y, new DocumentFile());
    }

    private static void clear() {
        DocumentFile x = Sample.small();
        int bytes = x.save();
        String file = Sample.file(x);
        x.clear();
        for (int what = 0; what <= 4; what++) {
            CHECK.due("clear: count(" + what + ")", x.count(what), 0);
        }
        CHECK.due("clear: count(5)", x.count(5), bytes);
        CHECK.due("clear: the file", Sample.file(x), file);
        CHECK.due("clear: at(0)", x.at(0), -1);
        CHECK.due("clear: base(0)", x.base(0), -2);
        CHECK.due("clear: style(0)", x.style(0), -1);
        CHECK.due("clear: style(-1)", x.style(-1), 0);
        CHECK.due("clear: style(0)", x.style(0), 1);
        CHECK.due("clear: value(0, 1, 16)", x.value(0, 1, 16), -1);
        CHECK.due("clear: set()", x.set(), 0);
        CHECK.due("clear: set()", x.set(), 1);
        CHECK.due("clear: value(1, 1, 3)", x.value(1, 1, 3), -1);
        CHECK.due("clear: mark(1, 2, -1)", x.mark(1, 2, -1), 0);
        CHECK.due("clear: end(0, 0, -1, 512)", x.end(0, 0, -1, 512), 1);
    }

    private static void style() {
        DocumentFile x = new DocumentFile();
        CHECK.due("style(0) without styles", x.style(0), -1);
        for (int i = 0; i < 16; i++) {
            CHECK.due("style(" + i + "), not there yet", x.style(i), -1);
            CHECK.due("style(-2)", x.style(-2), -1);
            CHECK.due("style(" + (i / 2 - 1) + ")", x.style(i / 2 - 1), i);
            CHECK.due("base(" + i + ")", x.base(i), i / 2 - 1);
            CHECK.due("count(0)", x.count(0), i + 1);
            CHECK.due("value(0, i, 23)", x.value(0, i, 23), -1);
        }
        CHECK.due("a 17th style", x.style(-1), -1);
        CHECK.due("a 17th style with a base", x.style(3), -1);
        CHECK.due("count(0)", x.count(0), 16);
        int[] wrong = {LEAST, -3, -2, 2, 3, 16, MOST};
        for (int base : wrong) {
            DocumentFile y = Sample.small();
            CHECK.due("style(" + base + ")", y.style(base), -1);
            unchanged("style(" + base + ")", y, Sample.small());
        }
    }

    private static void set() {
        DocumentFile x = new DocumentFile();
        for (int i = 0; i < 24; i++) {
            CHECK.due("set()", x.set(), i);
            CHECK.due("value(1, i, 0)", x.value(1, i, 0), -1);
            CHECK.due("value(1, i, 23)", x.value(1, i, 23), -1);
        }
        CHECK.due("a 25th set", x.set(), -1);
        CHECK.due("count(1)", x.count(1), 24);
        CHECK.due("count(0)", x.count(0), 0);
    }

    private static void property() {
        for (int of = 0; of <= 1; of++) {
            DocumentFile x = Sample.small();
            for (int p = 0; p < 24; p++) {
                int most = p <= 7 ? 1 : p <= 15 ? 255 : 65535;
                String name = "(" + of + ", 0, " + p + ")";
                CHECK.due("property " + name + " too high", x.property(of, 0, p, most + 1), false);
                CHECK.due("value" + name + " not there", x.value(of, 0, p), -1);
                CHECK.due("property " + name + " most", x.property(of, 0, p, most), true);
                CHECK.due("property " + name + " too low", x.property(of, 0, p, -2), false);
                CHECK.due("value" + name + " most", x.value(of, 0, p), most);
                CHECK.due("property " + name + " 0", x.property(of, 0, p, 0), true);
                CHECK.due("value" + name + " 0", x.value(of, 0, p), 0);
            }
            for (int p = 0; p < 24; p++) {
                CHECK.due("property goes", x.property(of, 0, p, -1), true);
                CHECK.due("property goes again", x.property(of, 0, p, -1), true);
            }
            unchanged("all came and went", x, Sample.small());
        }
        int[][] wrong = {{-1, 0, 0, 0}, {2, 0, 0, 0}, {LEAST, 0, 0, 0}, {MOST, 0, 0, 0}, {0, 2, 0, 0}, {1, 2, 0, 0},
            {0, -1, 0, 0}, {1, -1, 0, 0}, {0, LEAST, 0, 0}, {1, MOST, 0, 0}, {0, 0, 24, 0}, {1, 0, 24, 0},
            {0, 0, -1, 0}, {1, 0, -1, 0}, {0, 0, LEAST, 0}, {1, 1, MOST, 0}, {0, 0, 7, 2}, {0, 0, 8, 256},
            {0, 0, 15, 256}, {0, 1, 16, 65536}, {1, 1, 23, MOST}, {1, 1, 3, LEAST}, {0, 0, 24, -1}, {1, 2, 3, -1}};
        for (int[] w : wrong) {
            DocumentFile y = Sample.small();
            String call = "property(" + w[0] + ", " + w[1] + ", " + w[2] + ", " + w[3] + ")";
            CHECK.due(call, y.property(w[0], w[1], w[2], w[3]), false);
            unchanged(call, y, Sample.small());
        }
    }

    private static void mark() {
        DocumentFile x = new DocumentFile();
        CHECK.due("mark(0, 0, 0) without sets", x.mark(0, 0, 0), -1);
        x.set();
        x.set();
        for (int i = 0; i < 24; i++) {
            int old = i % 3 - 1;
            int inserted = i == 5 ? 255 : i;
            CHECK.due("mark", x.mark(inserted, 255 - i, old), i);
            CHECK.due("changes(i, 0)", x.changes(i, 0), inserted);
            CHECK.due("changes(i, 1)", x.changes(i, 1), 255 - i);
            CHECK.due("changes(i, 2)", x.changes(i, 2), old);
        }
        CHECK.due("a 25th mark", x.mark(0, 0, -1), -1);
        CHECK.due("count(2)", x.count(2), 24);
        int[][] wrong = {{-1, 0, -1}, {256, 0, -1}, {0, -1, -1}, {0, 256, -1}, {0, 0, -2}, {0, 0, 2}, {LEAST, 0, 0},
            {MOST, 0, 0}, {0, LEAST, 0}, {0, MOST, 0}, {0, 0, LEAST}, {0, 0, MOST}};
        for (int[] w : wrong) {
            DocumentFile y = Sample.small();
            String call = "mark(" + w[0] + ", " + w[1] + ", " + w[2] + ")";
            CHECK.due(call, y.mark(w[0], w[1], w[2]), -1);
            unchanged(call, y, Sample.small());
        }
    }

    private static void type() {
        DocumentFile x = Sample.small();
        CHECK.due("type one", x.type(1, 0, 'A'), 4);
        CHECK.due("type eight", x.type(0, 1, 0xFFFE7E2041A0090CL), 5);
        CHECK.due("type up to a zero byte", x.type(0, 1, 0x0742004100414243L), 6);
        int[] run = {0, 1, 0, -1, 10, 1, 0, 0, 1, -1, 11, 8, 0, 0, 1, -1, 19, 3};
        for (int i = 0; i < run.length; i++) {
            CHECK.due("run(" + (3 + i / 6) + ", " + i % 6 + ")", x.run(3 + i / 6, i % 6), run[i]);
        }
        int[] characters = {'A', 12, 9, 160, 65, 32, 126, 254, 255, 'C', 'B', 'A', -1};
        for (int i = 0; i < characters.length; i++) {
            CHECK.due("at(" + (10 + i) + ")", x.at(10 + i), characters[i]);
        }
        long a = 'a';
        long[][] wrong = {{0, 0, 0}, {0, 0, 0x6100}, {0, 0, 10}, {0, 0, 0x0A61}, {0, 0, 0x7F61616161616161L},
            {0, 0, 0x9F61616161616161L}, {-1, 0, a}, {2, 0, a}, {0, -1, a}, {0, 2, a}, {LEAST, 0, a}, {MOST, 0, a},
            {0, LEAST, a}, {0, MOST, a}, {0, 0, Long.MIN_VALUE}};
        for (long[] w : wrong) {
            DocumentFile y = Sample.small();
            String call = "type(" + w[0] + ", " + w[1] + ", " + w[2] + ")";
            CHECK.due(call, y.type((int) w[0], (int) w[1], w[2]), -1);
            unchanged(call, y, Sample.small());
        }
    }

    private static void typedCharacters() {
        for (int c = 1; c < 256; c++) {
            boolean text = c == 9 || c == 12 || c >= 32 && c <= 126 || c >= 160;
            for (int i = 0; i < 8; i++) {
                DocumentFile x = Sample.small();
                long other = 0x6161616161616161L & ~(255L << 8 * i);
                CHECK.due("type with " + c + " at " + i, x.type(0, 0, other | (long) c << 8 * i), text ? 4 : -1);
                CHECK.due("the character", x.at(10 + i), text ? c : -1);
            }
        }
    }

    private static void typeAtTheEdges() {
        DocumentFile x = Sample.small();
        for (int i = 3; i < 40; i++) {
            CHECK.due("type a run", x.type(0, 0, 'a'), i + 1);
        }
        CHECK.due("a 41st run", x.type(0, 0, 'a'), -1);
        CHECK.due("count(3)", x.count(3), 40);
        CHECK.due("count(4)", x.count(4), 47);

        DocumentFile y = Sample.small();
        y.end(0, 0, -1, 496);
        CHECK.due("514 characters", y.type(0, 0, Sample.text("12345678")), -1);
        CHECK.due("513 characters", y.type(0, 0, Sample.text("1234567")), -1);
        CHECK.due("count(4)", y.count(4), 506);
        CHECK.due("count(3)", y.count(3), 4);
        CHECK.due("512 characters", y.type(0, 0, Sample.text("123456")), 5);
        CHECK.due("count(4)", y.count(4), 512);
        CHECK.due("at(511)", y.at(511), '6');
        CHECK.due("at(512)", y.at(512), -1);
        CHECK.due("one more", y.type(0, 0, 'a'), -1);
    }

    private static void end() {
        DocumentFile x = Sample.small();
        CHECK.due("end without a style", x.end(1, 0, -1, 1), 4);
        CHECK.due("end with a style", x.end(0, 1, 0, 3), 5);
        int[] run = {1, 1, 0, -1, 10, 1, 1, 0, 1, 0, 11, 3};
        for (int i = 0; i < run.length; i++) {
            CHECK.due("run(" + (3 + i / 6) + ", " + i % 6 + ")", x.run(3 + i / 6, i % 6), run[i]);
        }
        for (int i = 10; i < 15; i++) {
            CHECK.due("at(" + i + ")", x.at(i), i < 14 ? 10 : -1);
        }
        int[][] wrong = {{-1, 0, 0, 1}, {2, 0, 0, 1}, {0, -1, 0, 1}, {0, 2, 0, 1}, {0, 0, -2, 1}, {0, 0, 2, 1},
            {0, 0, 0, 0}, {0, 0, 0, -1}, {0, 0, 0, LEAST}, {0, 0, 0, MOST}, {0, 0, 0, 503}, {LEAST, 0, 0, 1},
            {MOST, 0, 0, 1}, {0, LEAST, 0, 1}, {0, MOST, 0, 1}, {0, 0, LEAST, 1}, {0, 0, MOST, 1}};
        for (int[] w : wrong) {
            DocumentFile y = Sample.small();
            String call = "end(" + w[0] + ", " + w[1] + ", " + w[2] + ", " + w[3] + ")";
            CHECK.due(call, y.end(w[0], w[1], w[2], w[3]), -1);
            unchanged(call, y, Sample.small());
        }
    }

    private static void endAtTheEdges() {
        DocumentFile x = Sample.small();
        CHECK.due("512 characters", x.end(0, 0, 1, 502), 4);
        CHECK.due("at(511)", x.at(511), 10);
        CHECK.due("one more", x.end(0, 0, 1, 1), -1);
        CHECK.due("count(4)", x.count(4), 512);

        DocumentFile y = Sample.small();
        for (int i = 3; i < 40; i++) {
            CHECK.due("end a run", y.end(0, 0, 1, 2), i + 1);
        }
        CHECK.due("a 41st run", y.end(0, 0, 1, 2), -1);
        CHECK.due("count(3)", y.count(3), 40);
        CHECK.due("count(4)", y.count(4), 84);
        CHECK.due("run(39, 4)", y.run(39, 4), 82);
    }
}
