import java.util.ArrayList;
import java.util.Collections;
import java.util.List;
import java.util.Map;
import java.util.TreeMap;

/** A second, plain writing of the document with the Java library, for ModelTest to compare with. */
final class Model {
    private static final class Fault extends RuntimeException {
        private static final long serialVersionUID = 1;
        private final int place;

        Fault(int place) {
            super("fault", null, false, false);
            this.place = place;
        }
    }

    private static final class Content {
        private final List<Integer> bases = new ArrayList<>();
        private final List<TreeMap<Integer, Integer>> styles = new ArrayList<>();
        private final List<TreeMap<Integer, Integer>> sets = new ArrayList<>();
        private final List<int[]> marks = new ArrayList<>();
        private final List<int[]> runs = new ArrayList<>();
        private final List<Integer> characters = new ArrayList<>();

        List<Object> markKey(int k) {
            int[] mark = marks.get(k);
            Object old = mark[2] < 0 ? "none" : sets.get(mark[2]);
            return List.of(mark[0], mark[1], old);
        }

        List<Object> runKey(int k) {
            int[] run = runs.get(k);
            return List.of(run[0], run[3], sets.get(run[1]), markKey(run[2]));
        }
    }

    private Content c = new Content();
    private List<Integer> file = new ArrayList<>();
    private int next;

    void clear() {
        c = new Content();
    }

    int style(int base) {
        if (c.styles.size() == 16 || base < -1 || base >= c.styles.size()) {
            return -1;
        }
        c.bases.add(base);
        c.styles.add(new TreeMap<>());
        return c.styles.size() - 1;
    }

    int set() {
        if (c.sets.size() == 24) {
            return -1;
        }
        c.sets.add(new TreeMap<>());
        return c.sets.size() - 1;
    }

    private TreeMap<Integer, Integer> find(int of, int k) {
        List<TreeMap<Integer, Integer>> all = of == 0 ? c.styles : of == 1 ? c.sets : List.of();
        return k >= 0 && k < all.size() ? all.get(k) : null;
    }

    private static int most(int property) {
        return property <= 7 ? 1 : property <= 15 ? 255 : 65535;
    }

    boolean property(int of, int k, int property, int value) {
        TreeMap<Integer, Integer> properties = find(of, k);
        if (properties == null || property < 0 || property > 23 || value < -1 || value > most(property)) {
            return false;
        }
        if (value == -1) {
            properties.remove(property);
        } else {
            properties.put(property, value);
        }
        return true;
    }

    int mark(int inserted, int erased, int old) {
        if (c.marks.size() == 24 || inserted < 0 || inserted > 255 || erased < 0 || erased > 255
                || old < -1 || old >= c.sets.size()) {
            return -1;
        }
        c.marks.add(new int[] {inserted, erased, old});
        return c.marks.size() - 1;
    }

    private static boolean isText(int ch) {
        return ch == 9 || ch == 12 || ch >= 32 && ch <= 126 || ch >= 160 && ch <= 255;
    }

    private int add(int kind, int set, int mark, int style, List<Integer> characters) {
        if (c.runs.size() == 40 || set < 0 || set >= c.sets.size() || mark < 0 || mark >= c.marks.size()
                || style < -1 || style >= c.styles.size()
                || characters.isEmpty() || characters.size() + c.characters.size() > 512) {
            return -1;
        }
        c.runs.add(new int[] {kind, set, mark, style, c.characters.size(), characters.size()});
        c.characters.addAll(characters);
        return c.runs.size();
    }

    int type(int set, int mark, long s) {
        List<Integer> characters = new ArrayList<>();
        for (long rest = s; (rest & 255) != 0; rest >>>= 8) {
            characters.add((int) (rest & 255));
        }
        for (int ch : characters) {
            if (!isText(ch)) {
                return -1;
            }
        }
        return add(0, set, mark, -1, characters);
    }

    int end(int set, int mark, int style, int n) {
        if (n < 1 || n > 512) {
            return -1;
        }
        return add(1, set, mark, style, Collections.nCopies(n, 10));
    }

    int count(int what) {
        int[] counts = {c.styles.size(), c.sets.size(), c.marks.size(), c.runs.size(), c.characters.size(),
            file.size()};
        return what >= 0 && what < counts.length ? counts[what] : -1;
    }

    int base(int style) {
        return style >= 0 && style < c.bases.size() ? c.bases.get(style) : -2;
    }

    int value(int of, int k, int property) {
        TreeMap<Integer, Integer> properties = find(of, k);
        return properties == null || property < 0 || property > 23 ? -2 : properties.getOrDefault(property, -1);
    }

    int changes(int mark, int what) {
        return mark < 0 || mark >= c.marks.size() || what < 0 || what > 2 ? -2 : c.marks.get(mark)[what];
    }

    int run(int run, int what) {
        return run < 0 || run >= c.runs.size() || what < 0 || what > 5 ? -2 : c.runs.get(run)[what];
    }

    int at(int place) {
        return place < 0 || place >= c.characters.size() ? -1 : c.characters.get(place);
    }

    int octet(int place) {
        return place < 0 || place >= file.size() ? -1 : file.get(place);
    }

    boolean alter(int place, int value) {
        if (place < 0 || place > file.size() || place == 6000) {
            return false;
        }
        if (place == file.size()) {
            file.add(0);
        }
        file.set(place, Math.floorMod(value, 256));
        return true;
    }

    boolean cut(int n) {
        if (n < 0 || n > file.size()) {
            return false;
        }
        file = new ArrayList<>(file.subList(0, n));
        return true;
    }

    // Saving: the runs are joined in a list of their own first.

    int save() {
        file = new ArrayList<>(List.of(77, 83, 1));
        put(c.styles.size());
        for (int i = 0; i < c.styles.size(); i++) {
            put(c.bases.get(i) + 1);
            put(c.styles.get(i));
        }
        List<Integer> firsts = new ArrayList<>();
        for (int i = 0; i < c.runs.size(); i++) {
            if (i == 0 || !c.runKey(i).equals(c.runKey(i - 1))) {
                firsts.add(i);
            }
        }
        put(firsts.size());
        List<Object> sets = new ArrayList<>();
        List<Object> marks = new ArrayList<>();
        for (int i = 0; i < firsts.size(); i++) {
            int[] run = c.runs.get(firsts.get(i));
            int end = i + 1 < firsts.size() ? c.runs.get(firsts.get(i + 1))[4] : c.characters.size();
            put(run[0]);
            if (run[0] == 1) {
                put(run[3] + 1);
            }
            putSet(sets, run[1], 0);
            putMark(sets, marks, run[2]);
            put(end - run[4]);
            if (run[0] == 0) {
                file.addAll(c.characters.subList(run[4], end));
            }
        }
        return file.size();
    }

    private void put(int n) {
        List<Integer> digits = new ArrayList<>(List.of(n % 128));
        for (int rest = n / 128; rest > 0; rest /= 128) {
            digits.add(0, 128 + rest % 128);
        }
        file.addAll(digits);
    }

    private void put(TreeMap<Integer, Integer> properties) {
        put(properties.size());
        for (Map.Entry<Integer, Integer> entry : properties.entrySet()) {
            put(entry.getKey());
            put(entry.getValue());
        }
    }

    private void putSet(List<Object> sets, int set, int more) {
        int number = sets.indexOf(c.sets.get(set)) + 1;
        put(number + more);
        if (number == 0) {
            sets.add(c.sets.get(set));
            put(c.sets.get(set));
        }
    }

    private void putMark(List<Object> sets, List<Object> marks, int mark) {
        int number = marks.indexOf(c.markKey(mark)) + 1;
        put(number);
        if (number == 0) {
            marks.add(c.markKey(mark));
            int[] parts = c.marks.get(mark);
            put(parts[0]);
            put(parts[1]);
            if (parts[2] < 0) {
                put(0);
            } else {
                putSet(sets, parts[2], 1);
            }
        }
    }

    // Opening: every fault is thrown with its place.

    int open() {
        Content before = c;
        c = new Content();
        try {
            read();
            return 0;
        } catch (Fault fault) {
            c = before;
            return fault.place + 1;
        }
    }

    private static void need(boolean right, int place) {
        if (!right) {
            throw new Fault(place);
        }
    }

    private int octetHere(int item) {
        need(next < file.size(), item);
        next++;
        return file.get(next - 1);
    }

    private int number() {
        int item = next;
        long n = 0;
        for (int digits = 0;; digits++) {
            int octet = octetHere(item);
            n = n * 128 + octet % 128;
            need(n <= 65535 && (n > 0 || digits == 0), item);
            if (octet < 128) {
                return (int) n;
            }
            need(n > 0, item);
        }
    }

    private int number(int most) {
        int item = next;
        int n = number();
        need(n <= most, item);
        return n;
    }

    private void read() {
        next = 0;
        int[] head = {77, 83, 1};
        for (int i = 0; i < 3; i++) {
            need(octetHere(i) == head[i], i);
        }
        int styles = number(16);
        for (int i = 0; i < styles; i++) {
            int item = next;
            c.bases.add(number(styles) - 1);
            need(!circular(), item);
            c.styles.add(properties());
        }
        int runs = number(40);
        for (int i = 0; i < runs; i++) {
            readRun();
        }
        need(next == file.size(), next);
    }

    private boolean circular() {
        for (int style = 0; style < c.bases.size(); style++) {
            int at = style;
            for (int steps = 0; steps < 20 && at >= 0; steps++) {
                at = at < c.bases.size() ? c.bases.get(at) : -1;
                if (at == style) {
                    return true;
                }
            }
        }
        return false;
    }

    private TreeMap<Integer, Integer> properties() {
        TreeMap<Integer, Integer> properties = new TreeMap<>();
        int n = number(24);
        for (int i = 0; i < n; i++) {
            int item = next;
            int property = number(23);
            need(properties.isEmpty() || properties.lastKey() < property, item);
            properties.put(property, number(most(property)));
        }
        return properties;
    }

    private void readRun() {
        int start = next;
        int kind = number(1);
        int style = kind == 1 ? number(c.styles.size()) - 1 : -1;
        int set = readSet(0);
        int mark = readMark();
        c.runs.add(new int[] {kind, set, mark, style, c.characters.size(), 0});
        int run = c.runs.size() - 1;
        need(run == 0 || !c.runKey(run).equals(c.runKey(run - 1)), start);
        int item = next;
        int n = number();
        need(n >= 1 && c.characters.size() + n <= 512, item);
        c.runs.get(run)[5] = n;
        for (int i = 0; i < n; i++) {
            int place = next;
            int ch = kind == 1 ? 10 : octetHere(place);
            need(kind == 1 || isText(ch), place);
            c.characters.add(ch);
        }
    }

    private int readSet(int more) {
        int item = next;
        int n = number();
        if (n < more) {
            return -1;
        }
        if (n > more) {
            need(n - more <= c.sets.size(), item);
            return n - more - 1;
        }
        need(c.sets.size() < 24, item);
        TreeMap<Integer, Integer> properties = properties();
        need(!c.sets.contains(properties), item);
        c.sets.add(properties);
        return c.sets.size() - 1;
    }

    private int readMark() {
        int item = next;
        int n = number(c.marks.size());
        if (n > 0) {
            return n - 1;
        }
        need(c.marks.size() < 24, item);
        c.marks.add(new int[] {number(255), number(255), readSet(1)});
        int mark = c.marks.size() - 1;
        for (int i = 0; i < mark; i++) {
            need(!c.markKey(i).equals(c.markKey(mark)), item);
        }
        return mark;
    }
}
