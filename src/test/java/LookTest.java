/** Promises 9 to 14: the calls that look at a document. */
public final class LookTest {
    private static final Check CHECK = new Check();
    private static final int LEAST = Integer.MIN_VALUE;
    private static final int MOST = Integer.MAX_VALUE;
    private static final int[] NEITHER = {LEAST, -3, -2, -1, 100, 511, 6000, MOST};

    public static void main(String[] args) {
        DocumentFile x = Sample.small();
        count(x);
        base(x);
        value(x);
        changes(x);
        run(x);
        at(x);
        CHECK.due("all after the looks", Sample.all(x), Sample.all(Sample.small()));
        CHECK.finish();
    }

    private static void count(DocumentFile x) {
        int[] counts = {2, 2, 2, 3, 10, 5, -1, -1};
        for (int what = 0; what < counts.length; what++) {
            CHECK.due("count(" + what + ")", x.count(what), counts[what]);
        }
        for (int what : NEITHER) {
            CHECK.due("count(" + what + ")", x.count(what), -1);
        }
    }

    private static void base(DocumentFile x) {
        int[] bases = {-1, 0, -2, -2};
        for (int style = 0; style < bases.length; style++) {
            CHECK.due("base(" + style + ")", x.base(style), bases[style]);
        }
        for (int style : NEITHER) {
            CHECK.due("base(" + style + ")", x.base(style), -2);
        }
    }

    private static void value(DocumentFile x) {
        for (int p = 0; p < 24; p++) {
            CHECK.due("value(0, 0, " + p + ")", x.value(0, 0, p), -1);
            CHECK.due("value(0, 1, " + p + ")", x.value(0, 1, p), p == 16 ? 720 : -1);
            CHECK.due("value(1, 0, " + p + ")", x.value(1, 0, p), -1);
            CHECK.due("value(1, 1, " + p + ")", x.value(1, 1, p), p == 3 ? 1 : -1);
        }
        for (int of = 0; of <= 1; of++) {
            CHECK.due("value(of, 2, 0)", x.value(of, 2, 0), -2);
            CHECK.due("value(of, 0, 24)", x.value(of, 0, 24), -2);
            for (int n : NEITHER) {
                CHECK.due("value(" + of + ", " + n + ", 0)", x.value(of, n, 0), -2);
                CHECK.due("value(" + of + ", 1, " + n + ")", x.value(of, 1, n), -2);
            }
        }
        CHECK.due("value(2, 0, 0)", x.value(2, 0, 0), -2);
        for (int of : NEITHER) {
            CHECK.due("value(" + of + ", 0, 0)", x.value(of, 0, 0), -2);
        }
    }

    private static void changes(DocumentFile x) {
        int[][] marks = {{0, 0, -1, -2}, {7, 9, 1, -2}, {-2, -2, -2, -2}};
        for (int mark = 0; mark < marks.length; mark++) {
            for (int what = 0; what < 4; what++) {
                CHECK.due("changes(" + mark + ", " + what + ")", x.changes(mark, what), marks[mark][what]);
            }
        }
        for (int n : NEITHER) {
            CHECK.due("changes(" + n + ", 0)", x.changes(n, 0), -2);
            CHECK.due("changes(1, " + n + ")", x.changes(1, n), -2);
        }
    }

    private static void run(DocumentFile x) {
        int[][] runs = {{0, 0, 0, -1, 0, 5, -2}, {1, 0, 0, 1, 5, 2, -2}, {0, 1, 1, -1, 7, 3, -2},
            {-2, -2, -2, -2, -2, -2, -2}};
        for (int run = 0; run < runs.length; run++) {
            for (int what = 0; what < 7; what++) {
                CHECK.due("run(" + run + ", " + what + ")", x.run(run, what), runs[run][what]);
            }
        }
        for (int n : NEITHER) {
            CHECK.due("run(" + n + ", 0)", x.run(n, 0), -2);
            CHECK.due("run(1, " + n + ")", x.run(1, n), -2);
        }
    }

    private static void at(DocumentFile x) {
        String characters = "Hello\n\nyou";
        for (int place = 0; place < 12; place++) {
            int c = place < characters.length() ? characters.charAt(place) : -1;
            CHECK.due("at(" + place + ")", x.at(place), c);
        }
        for (int place : NEITHER) {
            CHECK.due("at(" + place + ")", x.at(place), -1);
        }
    }
}
