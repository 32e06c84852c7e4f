/** Documents of a word processor as files; ../shared/DOC.md tells what each call answers and changes. */
public final class DocumentFile {
    private static final int MOST_STYLES = 16;
    private static final int MOST_SETS = 24;
    private static final int MOST_MARKS = 24;
    private static final int MOST_RUNS = 40;
    private static final int MOST_CHARACTERS = 512;
    private static final int MOST_OCTETS = 6000;
    private static final int MOST_CHANGED = 255;
    private static final int MOST_TYPED = 8;
    private static final int PROPERTIES = 24;

    private static final int NONE = -1;
    private static final int NO_SUCH = -2;

    private static final int OF_STYLE = 0;
    private static final int OF_SET = 1;

    private static final int TEXT = 0;
    private static final int END = 1;
    private static final int END_CHARACTER = 10;

    private static final int RUN_KIND = 0;
    private static final int RUN_SET = 1;
    private static final int RUN_MARK = 2;
    private static final int RUN_STYLE = 3;
    private static final int RUN_START = 4;
    private static final int RUN_LENGTH = 5;
    private static final int RUN_PARTS = 6;

    private static final int MARK_INSERTED = 0;
    private static final int MARK_ERASED = 1;
    private static final int MARK_OLD = 2;
    private static final int MARK_PARTS = 3;

    private static final int[] HEAD = {77, 83, 1};

    private Document document;
    // A file is read into this one, so that the document stays if there is a fault.
    private Document spare;
    private final Octets file;
    private final Reader reader;
    private final Writer writer;

    public DocumentFile() {
        document = new Document();
        spare = new Document();
        file = new Octets();
        reader = new Reader(file);
        writer = new Writer(file);
    }

    public void clear() {
        document.empty();
    }

    public int style(int base) {
        if (base != NONE && !document.styles.has(base)) {
            return NONE;
        }
        return document.addStyle(base);
    }

    public int set() {
        return document.sets.add();
    }

    public boolean property(int of, int k, int property, int value) {
        if (of == OF_STYLE) {
            return document.styles.put(k, property, value);
        }
        return of == OF_SET && document.sets.put(k, property, value);
    }

    public int mark(int inserted, int erased, int old) {
        if (inserted < 0 || inserted > MOST_CHANGED || erased < 0 || erased > MOST_CHANGED) {
            return NONE;
        }
        if (old != NONE && !document.sets.has(old)) {
            return NONE;
        }
        return document.marks.add(inserted, erased, old);
    }

    public int type(int set, int mark, long s) {
        int n = textLength(s);
        if (!document.sets.has(set) || !document.marks.has(mark) || !document.runs.takes(n)) {
            return NONE;
        }
        document.runs.begin(TEXT, set, mark, NONE);
        for (int i = 0; i < n; i++) {
            document.runs.append(byteOf(s, i));
        }
        return document.runs.rows();
    }

    public int end(int set, int mark, int style, int n) {
        if (!document.sets.has(set) || !document.marks.has(mark) || !document.runs.takes(n)) {
            return NONE;
        }
        if (style != NONE && !document.styles.has(style)) {
            return NONE;
        }
        document.runs.begin(END, set, mark, style);
        for (int i = 0; i < n; i++) {
            document.runs.append(END_CHARACTER);
        }
        return document.runs.rows();
    }

    public int count(int what) {
        switch (what) {
            case 0:
                return document.styles.rows();
            case 1:
                return document.sets.rows();
            case 2:
                return document.marks.rows();
            case 3:
                return document.runs.rows();
            case 4:
                return document.runs.length();
            case 5:
                return file.size();
            default:
                return NONE;
        }
    }

    public int base(int style) {
        return document.baseOf(style);
    }

    public int value(int of, int k, int property) {
        if (of == OF_STYLE) {
            return document.styles.get(k, property);
        }
        return of == OF_SET ? document.sets.get(k, property) : NO_SUCH;
    }

    public int changes(int mark, int what) {
        return document.marks.part(mark, what);
    }

    public int run(int run, int what) {
        return document.runs.part(run, what);
    }

    public int at(int place) {
        return document.runs.character(place);
    }

    public int save() {
        writer.write(document);
        return file.size();
    }

    public int open() {
        int fault = reader.read(spare);
        if (fault != NONE) {
            return fault + 1;
        }
        Document before = document;
        document = spare;
        spare = before;
        return 0;
    }

    public int octet(int place) {
        return file.get(place);
    }

    public boolean alter(int place, int value) {
        return place == file.size() ? file.append(value) : file.put(place, value);
    }

    public boolean cut(int n) {
        return file.keep(n);
    }

    private static int byteOf(long s, int i) {
        return (int) (s >>> (8 * i)) & 255;
    }

    /** How many bytes of s stand ahead of the first zero byte; 0 too if one of them is none of a text run. */
    private static int textLength(long s) {
        for (int i = 0; i < MOST_TYPED; i++) {
            int c = byteOf(s, i);
            if (c == 0) {
                return i;
            }
            if (!Runs.isText(c)) {
                return 0;
            }
        }
        return MOST_TYPED;
    }

    /** Properties of styles or of sets; all rows lie in one array, so that a document makes few objects. */
    private static final class PropertyRows {
        private final int most;
        private final int[] values;
        private int rows;

        PropertyRows(int most) {
            this.most = most;
            values = new int[most * PROPERTIES];
            rows = 0;
        }

        static int mostOf(int property) {
            return property < 8 ? 1 : property < 16 ? 255 : 65535;
        }

        void empty() {
            rows = 0;
        }

        int rows() {
            return rows;
        }

        boolean has(int row) {
            return row >= 0 && row < rows;
        }

        /** The new row, or NONE if there are as many as there may be. */
        int add() {
            if (rows >= most) {
                return NONE;
            }
            for (int p = 0; p < PROPERTIES; p++) {
                values[rows * PROPERTIES + p] = NONE;
            }
            rows++;
            return rows - 1;
        }

        int get(int row, int property) {
            if (!has(row) || property < 0 || property >= PROPERTIES) {
                return NO_SUCH;
            }
            return values[row * PROPERTIES + property];
        }

        boolean put(int row, int property, int value) {
            if (!has(row) || property < 0 || property >= PROPERTIES) {
                return false;
            }
            if (value < NONE || value > mostOf(property)) {
                return false;
            }
            values[row * PROPERTIES + property] = value;
            return true;
        }

        /** How many properties are there in a row. */
        int held(int row) {
            int held = 0;
            for (int p = 0; has(row) && p < PROPERTIES; p++) {
                if (values[row * PROPERTIES + p] != NONE) {
                    held++;
                }
            }
            return held;
        }

        boolean same(int a, int b) {
            if (!has(a) || !has(b)) {
                return false;
            }
            for (int p = 0; p < PROPERTIES; p++) {
                if (values[a * PROPERTIES + p] != values[b * PROPERTIES + p]) {
                    return false;
                }
            }
            return true;
        }

        /** Whether a row ahead of this one has the same properties. */
        boolean repeats(int row) {
            for (int i = 0; i < row; i++) {
                if (same(i, row)) {
                    return true;
                }
            }
            return false;
        }
    }

    /** The marks, each a row of inserted, erased and old. */
    private static final class Marks {
        private final int[] parts;
        private int rows;

        Marks() {
            parts = new int[MOST_MARKS * MARK_PARTS];
            rows = 0;
        }

        void empty() {
            rows = 0;
        }

        int rows() {
            return rows;
        }

        boolean has(int mark) {
            return mark >= 0 && mark < rows;
        }

        boolean isFull() {
            return rows >= MOST_MARKS;
        }

        /** The new mark, or NONE if there are as many as there may be. */
        int add(int inserted, int erased, int old) {
            if (isFull()) {
                return NONE;
            }
            parts[rows * MARK_PARTS + MARK_INSERTED] = inserted;
            parts[rows * MARK_PARTS + MARK_ERASED] = erased;
            parts[rows * MARK_PARTS + MARK_OLD] = old;
            rows++;
            return rows - 1;
        }

        int part(int mark, int what) {
            if (!has(mark) || what < 0 || what >= MARK_PARTS) {
                return NO_SUCH;
            }
            return parts[mark * MARK_PARTS + what];
        }
    }

    /** The runs, each a row of what promise 13 tells of it, and the characters of all of them. */
    private static final class Runs {
        private final int[] parts;
        private final int[] characters;
        private int rows;
        private int length;

        Runs() {
            parts = new int[MOST_RUNS * RUN_PARTS];
            characters = new int[MOST_CHARACTERS];
            rows = 0;
            length = 0;
        }

        static boolean isText(int c) {
            return c == 9 || c == 12 || (c >= 32 && c <= 126) || (c >= 160 && c <= 255);
        }

        void empty() {
            rows = 0;
            length = 0;
        }

        int rows() {
            return rows;
        }

        int length() {
            return length;
        }

        /** Whether there is room for a run of n characters, and n is a length that a run may have. */
        boolean takes(int n) {
            return rows < MOST_RUNS && n >= 1 && n <= MOST_CHARACTERS - length;
        }

        /** The new run, still without characters, or NONE if there are as many as there may be. */
        int begin(int kind, int set, int mark, int style) {
            if (rows >= MOST_RUNS) {
                return NONE;
            }
            int row = rows * RUN_PARTS;
            parts[row + RUN_KIND] = kind;
            parts[row + RUN_SET] = set;
            parts[row + RUN_MARK] = mark;
            parts[row + RUN_STYLE] = style;
            parts[row + RUN_START] = length;
            parts[row + RUN_LENGTH] = 0;
            rows++;
            return rows - 1;
        }

        /** One more character of the last run. */
        void append(int c) {
            if (rows >= 1 && length < MOST_CHARACTERS) {
                characters[length] = c;
                length++;
                parts[(rows - 1) * RUN_PARTS + RUN_LENGTH]++;
            }
        }

        int part(int run, int what) {
            if (run < 0 || run >= rows || what < 0 || what >= RUN_PARTS) {
                return NO_SUCH;
            }
            return parts[run * RUN_PARTS + what];
        }

        int character(int place) {
            return place >= 0 && place < length ? characters[place] : NONE;
        }
    }

    private static final class Document {
        final PropertyRows styles;
        final PropertyRows sets;
        final Marks marks;
        final Runs runs;
        private final int[] bases;

        Document() {
            styles = new PropertyRows(MOST_STYLES);
            sets = new PropertyRows(MOST_SETS);
            marks = new Marks();
            runs = new Runs();
            bases = new int[MOST_STYLES];
        }

        void empty() {
            styles.empty();
            sets.empty();
            marks.empty();
            runs.empty();
        }

        int addStyle(int base) {
            int style = styles.add();
            if (style >= 0 && style < MOST_STYLES) {
                bases[style] = base;
            }
            return style;
        }

        int baseOf(int style) {
            return styles.has(style) && style < MOST_STYLES ? bases[style] : NO_SUCH;
        }

        /** Gives a style a base; false if the style then comes to itself along the bases. */
        boolean rebase(int style, int base) {
            if (!styles.has(style) || style >= MOST_STYLES) {
                return false;
            }
            bases[style] = base;
            int next = base;
            for (int i = 0; i < MOST_STYLES && next >= 0; i++) {
                if (next == style) {
                    return false;
                }
                next = baseOf(next);
            }
            return true;
        }

        boolean sameMarks(int a, int b) {
            if (marks.part(a, MARK_INSERTED) != marks.part(b, MARK_INSERTED)
                    || marks.part(a, MARK_ERASED) != marks.part(b, MARK_ERASED)) {
                return false;
            }
            int old = marks.part(a, MARK_OLD);
            int other = marks.part(b, MARK_OLD);
            return old == other || sets.same(old, other);
        }

        /** Whether a mark ahead of this one has the same. */
        boolean repeatsMark(int mark) {
            for (int i = 0; i < mark; i++) {
                if (sameMarks(i, mark)) {
                    return true;
                }
            }
            return false;
        }

        /** Whether a run goes on with the kind, style, set and mark of the run before it. */
        boolean goesOn(int run) {
            int before = run - 1;
            return before >= 0
                    && runs.part(before, RUN_KIND) == runs.part(run, RUN_KIND)
                    && runs.part(before, RUN_STYLE) == runs.part(run, RUN_STYLE)
                    && sets.same(runs.part(before, RUN_SET), runs.part(run, RUN_SET))
                    && sameMarks(runs.part(before, RUN_MARK), runs.part(run, RUN_MARK));
        }
    }

    /** The bytes of the file. */
    private static final class Octets {
        private final int[] octets;
        private int size;

        Octets() {
            octets = new int[MOST_OCTETS];
            size = 0;
        }

        int size() {
            return size;
        }

        int get(int place) {
            return place >= 0 && place < size ? octets[place] : NONE;
        }

        boolean put(int place, int value) {
            if (place < 0 || place >= size) {
                return false;
            }
            octets[place] = value & 255;
            return true;
        }

        boolean append(int value) {
            if (size >= MOST_OCTETS) {
                return false;
            }
            octets[size] = value & 255;
            size++;
            return true;
        }

        boolean keep(int n) {
            if (n < 0 || n > size) {
                return false;
            }
            size = n;
            return true;
        }
    }

    /** Makes the file that of a document. */
    private static final class Writer {
        private final Octets file;
        // What the file's numbers 1, 2, .. stand for, by the document's own numbers.
        private final int[] setsOut;
        private final int[] marksOut;
        private int setCount;
        private int markCount;

        Writer(Octets file) {
            this.file = file;
            setsOut = new int[MOST_SETS];
            marksOut = new int[MOST_MARKS];
            setCount = 0;
            markCount = 0;
        }

        void write(Document from) {
            setCount = 0;
            markCount = 0;
            file.keep(0);
            for (int i = 0; i < HEAD.length; i++) {
                file.append(HEAD[i]);
            }
            writeStyles(from);
            writeNumber(joinedRuns(from));
            for (int i = 0; i < from.runs.rows(); i++) {
                if (!from.goesOn(i)) {
                    writeRun(from, i);
                }
            }
        }

        private void writeNumber(int n) {
            if (n >= 128 * 128) {
                file.append(128 + (n >> 14));
            }
            if (n >= 128) {
                file.append(128 + ((n >> 7) & 127));
            }
            file.append(n & 127);
        }

        private void writeStyles(Document from) {
            writeNumber(from.styles.rows());
            for (int i = 0; i < from.styles.rows(); i++) {
                writeNumber(from.baseOf(i) + 1);
                writeProperties(from.styles, i);
            }
        }

        private void writeProperties(PropertyRows rows, int row) {
            writeNumber(rows.held(row));
            for (int p = 0; p < PROPERTIES; p++) {
                int value = rows.get(row, p);
                if (value >= 0) {
                    writeNumber(p);
                    writeNumber(value);
                }
            }
        }

        private int joinedRuns(Document from) {
            int joined = 0;
            for (int i = 0; i < from.runs.rows(); i++) {
                if (!from.goesOn(i)) {
                    joined++;
                }
            }
            return joined;
        }

        /** Writes a run together with those behind it that go on with it. */
        private void writeRun(Document from, int run) {
            int kind = from.runs.part(run, RUN_KIND);
            writeNumber(kind);
            if (kind == END) {
                writeNumber(from.runs.part(run, RUN_STYLE) + 1);
            }
            writeSet(from, from.runs.part(run, RUN_SET), 0);
            writeMark(from, from.runs.part(run, RUN_MARK));
            int n = joinedLength(from, run);
            writeNumber(n);
            int start = from.runs.part(run, RUN_START);
            for (int i = 0; kind == TEXT && i < n; i++) {
                file.append(from.runs.character(start + i));
            }
        }

        private int joinedLength(Document from, int run) {
            int n = from.runs.part(run, RUN_LENGTH);
            for (int i = run + 1; i < from.runs.rows() && from.goesOn(i); i++) {
                n += from.runs.part(i, RUN_LENGTH);
            }
            return n;
        }

        /** Here is the number that says 'written out here': 0 in a run, 1 in a mark, where 0 is none. */
        private void writeSet(Document from, int set, int here) {
            int number = numberOfSet(from, set);
            writeNumber(number + here);
            if (number == 0 && setCount < MOST_SETS) {
                setsOut[setCount] = set;
                setCount++;
                writeProperties(from.sets, set);
            }
        }

        private int numberOfSet(Document from, int set) {
            for (int i = 0; i < setCount; i++) {
                if (from.sets.same(setsOut[i], set)) {
                    return i + 1;
                }
            }
            return 0;
        }

        private void writeMark(Document from, int mark) {
            int number = numberOfMark(from, mark);
            writeNumber(number);
            if (number == 0 && markCount < MOST_MARKS) {
                marksOut[markCount] = mark;
                markCount++;
                writeNumber(from.marks.part(mark, MARK_INSERTED));
                writeNumber(from.marks.part(mark, MARK_ERASED));
                int old = from.marks.part(mark, MARK_OLD);
                if (old == NONE) {
                    writeNumber(0);
                } else {
                    writeSet(from, old, 1);
                }
            }
        }

        private int numberOfMark(Document from, int mark) {
            for (int i = 0; i < markCount; i++) {
                if (from.sameMarks(marksOut[i], mark)) {
                    return i + 1;
                }
            }
            return 0;
        }
    }

    /** Reads the file item by item; after the first fault it reads nothing more. */
    private static final class Reader {
        private final Octets file;
        private int next;
        private int item;
        private int fault;

        Reader(Octets file) {
            this.file = file;
            next = 0;
            item = 0;
            fault = NONE;
        }

        /** The place of the first fault, or NONE: then the document is that of the file. */
        int read(Document into) {
            next = 0;
            fault = NONE;
            into.empty();
            readHead();
            readStyles(into);
            int runs = readNumber(0, MOST_RUNS);
            for (int i = 0; i < runs && !failed(); i++) {
                readRun(into);
            }
            if (!failed() && next < file.size()) {
                refuse(next);
            }
            return fault;
        }

        private boolean failed() {
            return fault != NONE;
        }

        private int refuse(int place) {
            fault = place;
            return NONE;
        }

        private void readHead() {
            for (int i = 0; i < HEAD.length && !failed(); i++) {
                if (file.get(i) == HEAD[i]) {
                    next = i + 1;
                } else {
                    refuse(i);
                }
            }
        }

        /**
         * A number that isn't below least or above most, or NONE. No most is above 65535, and three digits
         * reach beyond that, so a longer number is one too high.
         */
        private int readNumber(int least, int most) {
            if (failed()) {
                return NONE;
            }
            item = next;
            int n = 0;
            for (int i = 0; i < 3; i++) {
                int octet = file.get(next);
                if (octet < 0 || (i == 0 && octet == 128)) {
                    return refuse(item);
                }
                next++;
                n = n * 128 + (octet & 127);
                if (octet < 128) {
                    return n < least || n > most ? refuse(item) : n;
                }
            }
            return refuse(item);
        }

        private void readStyles(Document into) {
            int styles = readNumber(0, MOST_STYLES);
            // All are there before the first is read: a base may be a later style.
            for (int i = 0; i < styles; i++) {
                into.addStyle(NONE);
            }
            for (int i = 0; i < styles && !failed(); i++) {
                readBase(into, i);
                readProperties(into.styles, i);
            }
        }

        private void readBase(Document into, int style) {
            int number = readNumber(0, into.styles.rows());
            if (!failed() && !into.rebase(style, number - 1)) {
                refuse(item);
            }
        }

        private void readProperties(PropertyRows rows, int row) {
            int held = readNumber(0, PROPERTIES);
            int property = NONE;
            for (int i = 0; i < held && !failed(); i++) {
                property = readNumber(property + 1, PROPERTIES - 1);
                int value = readNumber(0, PropertyRows.mostOf(property));
                if (!failed()) {
                    rows.put(row, property, value);
                }
            }
        }

        private void readRun(Document into) {
            int start = next;
            int kind = readNumber(TEXT, END);
            int style = kind == END ? readNumber(0, into.styles.rows()) - 1 : NONE;
            int set = readSet(into, 0);
            int mark = readMark(into);
            if (failed()) {
                return;
            }
            int run = into.runs.begin(kind, set, mark, style);
            if (into.goesOn(run)) {
                refuse(start);
            }
            readCharacters(into.runs, kind);
        }

        /** A set, or NONE for none and behind a fault. Here is the number that says 'written out here'. */
        private int readSet(Document into, int here) {
            int number = readNumber(0, into.sets.rows() + here);
            if (number < here) {
                return NONE;
            }
            if (number > here) {
                return number - here - 1;
            }
            int ahead = item;
            int set = into.sets.add();
            if (set == NONE) {
                return refuse(ahead);
            }
            readProperties(into.sets, set);
            if (!failed() && into.sets.repeats(set)) {
                refuse(ahead);
            }
            return failed() ? NONE : set;
        }

        private int readMark(Document into) {
            int number = readNumber(0, into.marks.rows());
            if (number != 0) {
                return number - 1;
            }
            int ahead = item;
            if (into.marks.isFull()) {
                return refuse(ahead);
            }
            int inserted = readNumber(0, MOST_CHANGED);
            int erased = readNumber(0, MOST_CHANGED);
            int old = readSet(into, 1);
            if (failed()) {
                return NONE;
            }
            int mark = into.marks.add(inserted, erased, old);
            return into.repeatsMark(mark) ? refuse(ahead) : mark;
        }

        private void readCharacters(Runs runs, int kind) {
            int n = readNumber(1, MOST_CHARACTERS - runs.length());
            for (int i = 0; i < n && !failed(); i++) {
                int c = kind == END ? END_CHARACTER : readCharacter();
                if (!failed()) {
                    runs.append(c);
                }
            }
        }

        private int readCharacter() {
            int c = file.get(next);
            if (!Runs.isText(c)) {
                return refuse(next);
            }
            next++;
            return c;
        }
    }
}
