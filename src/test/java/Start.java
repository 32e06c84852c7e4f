/** The states that the tests begin with. */
final class Start {
    /** A new object. */
    static final State NEW = x -> { };

    /** One set and one mark, without anything. */
    static final State PLAIN = x -> {
        x.set();
        x.mark(0, 0, -1);
    };

    /** A document with some of everything. */
    static final State DOCUMENT = x -> {
        x.style(-1);
        x.style(0);
        x.property(0, 1, 16, 720);
        x.set();
        x.set();
        x.property(1, 1, 3, 1);
        x.mark(0, 0, -1);
        x.mark(7, 9, 1);
        x.type(0, 0, text("Hello"));
        x.end(0, 0, 1, 2);
        x.type(1, 1, text("you"));
    };

    /** That document, and the file of an empty one, 5 bytes. */
    static final State SMALL = DOCUMENT.then(x -> {
        x.alter(0, 77);
        x.alter(1, 83);
        x.alter(2, 1);
        x.alter(3, 0);
        x.alter(4, 0);
    });

    /** As much of everything as there may be, in a file too: 16 styles, 24 sets, 24 marks, 40 runs, 512 characters. */
    static final State FULL = styles(16).then(sets(24)).then(marks(24)).then(x -> {
        for (int i = 0; i < 38; i++) {
            x.type(i % 24, i % 24, text("Abcdefg" + (char) (i + 160)));
        }
        x.end(23, 23, 15, 207);
        x.type(0, 0, 255);
        x.save();
    });

    /** A file that opens, item by item; the first three bytes and the last three characters are no numbers. */
    static final String SAMPLE_FILE = "77,83,1,2,2,2,8,129 0,16,131 255 127,0,1,20,132 1,3,"
            + "1,2,0,1,20,129 128 0,0,129 127,129 0,1,1,15,129 1,130 1,"
            + "1,0,2,0,0,0,3,7,"
            + "0,1,1,3,65,66,67";

    private Start() {
    }

    /** n styles, each with the one before as its base, and with a property of its own. */
    static State styles(int n) {
        return x -> {
            for (int i = 0; i < n; i++) {
                x.style(i - 1);
                x.property(0, i, i, i % 2);
            }
        };
    }

    /** n sets, each with another value of one property. */
    static State sets(int n) {
        return x -> {
            for (int i = 0; i < n; i++) {
                x.set();
                x.property(1, i, 8, i + 100);
            }
        };
    }

    /** n marks, all different, each with the set of its number as the old one. */
    static State marks(int n) {
        return x -> {
            for (int i = 0; i < n; i++) {
                x.mark(i, 255 - i, i);
            }
        };
    }

    /** The bytes of a text of at most eight characters, the first one lowest. */
    static long text(String s) {
        long bytes = 0;
        for (int i = s.length() - 1; i >= 0; i--) {
            bytes = bytes << 8 | s.charAt(i);
        }
        return bytes;
    }

    /** A file of these bytes, written as numbers with blanks between them. */
    static State file(String bytes) {
        return x -> {
            x.cut(0);
            int place = 0;
            for (String octet : bytes.trim().split(" +")) {
                if (!octet.isEmpty()) {
                    x.alter(place, Integer.parseInt(octet));
                    place++;
                }
            }
        };
    }
}
