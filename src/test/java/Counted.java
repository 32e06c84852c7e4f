/** The calls of a DocumentFile, counted: behind its 512th call the document promises nothing of an object. */
final class Counted {
    private static final int PROMISED = 512;
    private static String latest = "no call";

    private final DocumentFile x = new DocumentFile();
    private int calls = 0;
    private boolean beyond = false;

    /** The call that was made last, of any object. */
    static String latest() {
        return latest;
    }

    /** For the few edges that no run of 512 calls comes to. */
    void goBeyond() {
        beyond = true;
    }

    boolean isUsedUp() {
        return !beyond && calls >= PROMISED;
    }

    private DocumentFile call(String call) {
        if (isUsedUp()) {
            throw new IllegalStateException("the test makes more than 512 calls");
        }
        calls++;
        latest = call;
        return x;
    }

    void clear() {
        call("clear()").clear();
    }

    int style(int base) {
        return call("style(" + base + ")").style(base);
    }

    int set() {
        return call("set()").set();
    }

    boolean property(int of, int k, int property, int value) {
        return call("property(" + of + ", " + k + ", " + property + ", " + value + ")")
                .property(of, k, property, value);
    }

    int mark(int inserted, int erased, int old) {
        return call("mark(" + inserted + ", " + erased + ", " + old + ")").mark(inserted, erased, old);
    }

    int type(int set, int mark, long s) {
        return call("type(" + set + ", " + mark + ", 0x" + Long.toHexString(s) + ")").type(set, mark, s);
    }

    int end(int set, int mark, int style, int n) {
        return call("end(" + set + ", " + mark + ", " + style + ", " + n + ")").end(set, mark, style, n);
    }

    int count(int what) {
        return call("count(" + what + ")").count(what);
    }

    int base(int style) {
        return call("base(" + style + ")").base(style);
    }

    int value(int of, int k, int property) {
        return call("value(" + of + ", " + k + ", " + property + ")").value(of, k, property);
    }

    int changes(int mark, int what) {
        return call("changes(" + mark + ", " + what + ")").changes(mark, what);
    }

    int run(int run, int what) {
        return call("run(" + run + ", " + what + ")").run(run, what);
    }

    int at(int place) {
        return call("at(" + place + ")").at(place);
    }

    int save() {
        return call("save()").save();
    }

    int open() {
        return call("open()").open();
    }

    int octet(int place) {
        return call("octet(" + place + ")").octet(place);
    }

    boolean alter(int place, int value) {
        return call("alter(" + place + ", " + value + ")").alter(place, value);
    }

    boolean cut(int n) {
        return call("cut(" + n + ")").cut(n);
    }
}
