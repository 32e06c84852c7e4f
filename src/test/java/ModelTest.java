import java.util.Arrays;

/** Calls on a DocumentFile and on the Model; each answer of the one is due from the other. */
public final class ModelTest extends Cases {
    private static final int CALLS = 512;
    private static final int[] ODD = {Integer.MIN_VALUE, -257, -3, -2, -1, 16, 24, 40, 256, 512, 6000, 65536,
        Integer.MAX_VALUE};

    private final DocumentFile x = new DocumentFile();
    private final Model m = new Model();
    private final int run;
    private long seed;
    private final int spread;
    private int faults = 0;
    private int opened = 0;

    private ModelTest(int run) {
        this.run = run;
        seed = run * 7919L + 17;
        // Few kinds of values make equal sets and marks likely, many make the limits likely.
        spread = 1 + run % 5 * 3;
    }

    public static void main(String[] args) {
        run(ModelTest.class);
    }

    static void longRunsOfCalls() {
        int faults = 0;
        int opened = 0;
        for (int run = 0; run < 4000; run++) {
            ModelTest test = new ModelTest(run);
            test.go();
            faults += test.faults;
            opened += test.opened;
        }
        System.out.println(opened + " files opened, " + faults + " faults");
        due("opening and refusing files often enough", true, opened > 10000 && faults > 10000);
    }

    /** A file with one byte changed, one put in or one left out: each byte, by each value. */
    static void eachByteOfAFile() {
        String[] bytes = Start.SAMPLE_FILE.split("[ ,]");
        int[] file = new int[bytes.length];
        for (int i = 0; i < bytes.length; i++) {
            file[i] = Integer.parseInt(bytes[i]);
        }
        for (int place = 0; place <= file.length; place++) {
            openBoth(spliced(file, place, Math.min(place + 1, file.length), -1));
            for (int octet = 0; octet < 256; octet++) {
                openBoth(spliced(file, place, Math.min(place + 1, file.length), octet));
                openBoth(spliced(file, place, place, octet));
            }
        }
    }

    /** The bytes ahead of one place and from another one on, with a byte between them, or none for -1. */
    private static int[] spliced(int[] file, int ahead, int behind, int octet) {
        int between = octet < 0 ? 0 : 1;
        int[] made = new int[ahead + between + file.length - behind];
        System.arraycopy(file, 0, made, 0, ahead);
        if (between == 1) {
            made[ahead] = octet;
        }
        System.arraycopy(file, behind, made, ahead + between, file.length - behind);
        return made;
    }

    private static void openBoth(int[] file) {
        DocumentFile x = new DocumentFile();
        Model m = new Model();
        for (int i = 0; i < file.length; i++) {
            x.alter(i, file[i]);
            m.alter(i, file[i]);
        }
        String bytes = Arrays.toString(file);
        due("open() of " + bytes, m.open(), x.open());
        for (int what = 0; what < 5; what++) {
            due("count(" + what + ") behind open() of " + bytes, m.count(what), x.count(what));
        }
        due("save() behind open() of " + bytes, m.save(), x.save());
        for (int i = 0; i < m.count(5); i++) {
            due("octet(" + i + ") behind open() and save() of " + bytes, m.octet(i), x.octet(i));
        }
    }

    /** A fixed sequence for each run, so that a wrong answer comes again. */
    private int pick(int n) {
        seed = seed * 6364136223846793005L + 1442695040888963407L;
        return (int) ((seed >>> 33) % n);
    }

    private int near(int count) {
        return pick(20) == 0 ? ODD[pick(ODD.length)] : pick(count + 1) - (pick(8) == 0 ? 1 : 0);
    }

    private int there(int count) {
        return count == 0 || pick(25) == 0 ? near(count) : pick(count);
    }

    private void both(String call, Object got, Object want) {
        due("in run " + run + " " + call, want, got);
    }

    private void go() {
        boolean bare = run % 3 == 0;
        for (int i = 0; i < CALLS; i++) {
            int kind = pick(100);
            if (kind < (bare ? 20 : 45)) {
                build();
            } else if (kind < 60) {
                look();
            } else if (kind < 66) {
                both("save()", x.save(), m.save());
            } else if (kind < 68) {
                cut();
            } else if (kind < 88) {
                alter();
            } else {
                open();
            }
        }
        compare();
    }

    private void build() {
        switch (pick(pick(10) == 0 ? 9 : 8)) {
            case 0: style(); break;
            case 1: both("set()", x.set(), m.set()); break;
            case 2: case 3: property(); break;
            case 4: mark(); break;
            case 5: case 6: type(); break;
            case 7: end(); break;
            default: x.clear(); m.clear(); break;
        }
    }

    private void style() {
        int base = there(m.count(0) + 1) - 1;
        both("style(" + base + ")", x.style(base), m.style(base));
    }

    private void property() {
        int of = pick(20) == 0 ? near(2) : pick(2);
        int k = there(Math.max(0, m.count(of)));
        int property = pick(12) == 0 ? near(24) : pick(Math.min(24, spread)) * 23 / Math.max(1, Math.min(23, spread));
        int[] values = {-1, 0, 1, 0, 1, 2, 127, 128, 255, 256, 16383, 16384, 65535, 65536, -2};
        int value = values[pick(pick(3) == 0 ? values.length : 5)];
        both("property(" + of + ", " + k + ", " + property + ", " + value + ")",
                x.property(of, k, property, value), m.property(of, k, property, value));
    }

    private void mark() {
        int inserted = pick(15) == 0 ? near(256) : pick(spread);
        int erased = pick(15) == 0 ? near(256) : pick(2);
        int old = pick(2) == 0 ? -1 : there(m.count(1));
        both("mark(" + inserted + ", " + erased + ", " + old + ")",
                x.mark(inserted, erased, old), m.mark(inserted, erased, old));
    }

    private void type() {
        long s = 0;
        int n = 1 + pick(run % 2 == 0 ? 2 : 8);
        for (int i = 0; i < n; i++) {
            s = s << 8 | (pick(100) == 0 ? pick(256) : pick(2) == 0 ? 'a' + pick(26) : 160 + pick(96));
        }
        int set = there(m.count(1));
        int mark = there(m.count(2));
        both("type(" + set + ", " + mark + ", " + s + ")", x.type(set, mark, s), m.type(set, mark, s));
    }

    private void end() {
        int set = there(m.count(1));
        int mark = there(m.count(2));
        int style = there(m.count(0) + 1) - 1;
        int n = pick(30) == 0 ? near(513) : 1 + pick(3);
        both("end(" + set + ", " + mark + ", " + style + ", " + n + ")",
                x.end(set, mark, style, n), m.end(set, mark, style, n));
    }

    private void look() {
        int a = near(2);
        int b = near(m.count(3) + 2);
        int c = near(24);
        both("count(" + c + ")", x.count(c % 7), m.count(c % 7));
        both("base(" + b + ")", x.base(b), m.base(b));
        both("value(" + a + ", " + b + ", " + c + ")", x.value(a, b, c), m.value(a, b, c));
        both("changes(" + b + ", " + c % 5 + ")", x.changes(b, c % 5), m.changes(b, c % 5));
        both("run(" + b + ", " + c % 8 + ")", x.run(b, c % 8), m.run(b, c % 8));
        int place = near(m.count(4) + 1);
        both("at(" + place + ")", x.at(place), m.at(place));
        place = near(m.count(5) + 1);
        both("octet(" + place + ")", x.octet(place), m.octet(place));
    }

    private void cut() {
        int n = pick(4) == 0 ? near(m.count(5)) : m.count(5) - pick(4);
        both("cut(" + n + ")", x.cut(n), m.cut(n));
    }

    /** Small changes of a byte most of the time, for files that are almost right. */
    private void alter() {
        int place = pick(3) == 0 ? m.count(5) - pick(6) : near(m.count(5));
        int[] values = {0, 1, 2, 3, 128, 129, 255, m.octet(place) + 1, m.octet(place) - 1, 97, 24, 25, 16, 17, 23};
        int value = pick(10) == 0 ? near(256) : values[pick(values.length)];
        both("alter(" + place + ", " + value + ")", x.alter(place, value), m.alter(place, value));
    }

    private void open() {
        int want = m.open();
        both("open()", x.open(), want);
        if (want == 0) {
            opened++;
        } else {
            faults++;
        }
    }

    /** Looks at all there is, beyond the calls that the document promises. */
    private void compare() {
        for (int what = -1; what < 7; what++) {
            both("count(" + what + ")", x.count(what), m.count(what));
        }
        for (int i = 0; i < 41; i++) {
            both("base(" + i + ")", x.base(i), m.base(i));
            for (int p = 0; p < 24; p++) {
                both("value(0, " + i + ", " + p + ")", x.value(0, i, p), m.value(0, i, p));
                both("value(1, " + i + ", " + p + ")", x.value(1, i, p), m.value(1, i, p));
            }
            for (int what = 0; what < 6; what++) {
                both("changes(" + i + ", " + what + ")", x.changes(i, what), m.changes(i, what));
                both("run(" + i + ", " + what + ")", x.run(i, what), m.run(i, what));
            }
        }
        for (int i = 0; i < m.count(4); i++) {
            both("at(" + i + ")", x.at(i), m.at(i));
        }
        for (int i = 0; i < m.count(5); i++) {
            both("octet(" + i + ")", x.octet(i), m.octet(i));
        }
    }
}
