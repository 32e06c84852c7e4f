/** Documents and files that the tests share. */
final class Sample {
    private Sample() {
    }

    /** A document with some of everything, and the file of an empty document. */
    static DocumentFile small() {
        DocumentFile x = new DocumentFile();
        x.save();
        x.style(-1);
        x.style(0);
        x.property(0, 1, 16, 720);
        x.set();
        x.set();
        x.property(1, 1, 3, 1);
        x.mark(0, 0, -1);
        x.mark(7, 9, 1);
        x.type(0, 0, text("Hello"));
        x.end(0, 0, 1, 2);
        x.type(1, 1, text("you"));
        return x;
    }

    /** The bytes of a text of at most eight characters, the first one lowest. */
    static long text(String s) {
        long bytes = 0;
        for (int i = s.length() - 1; i >= 0; i--) {
            bytes = bytes << 8 | s.charAt(i);
        }
        return bytes;
    }

    /** All that can be seen of the document. */
    static String document(DocumentFile x) {
        StringBuilder seen = new StringBuilder();
        for (int i = 0; i < x.count(0); i++) {
            seen.append("style ").append(x.base(i)).append(':').append(properties(x, 0, i)).append('\n');
        }
        for (int i = 0; i < x.count(1); i++) {
            seen.append("set:").append(properties(x, 1, i)).append('\n');
        }
        for (int i = 0; i < x.count(2); i++) {
            seen.append("mark");
            for (int what = 0; what < 3; what++) {
                seen.append(' ').append(x.changes(i, what));
            }
            seen.append('\n');
        }
        for (int i = 0; i < x.count(3); i++) {
            seen.append("run");
            for (int what = 0; what < 6; what++) {
                seen.append(' ').append(x.run(i, what));
            }
            seen.append('\n');
        }
        seen.append("characters");
        int characters = x.count(4);
        for (int i = 0; i < characters; i++) {
            seen.append(' ').append(x.at(i));
        }
        return seen.append('\n').toString();
    }

    private static String properties(DocumentFile x, int of, int k) {
        StringBuilder seen = new StringBuilder();
        for (int p = 0; p < 24; p++) {
            int value = x.value(of, k, p);
            if (value != -1) {
                seen.append(' ').append(p).append('=').append(value);
            }
        }
        return seen.toString();
    }

    /** The bytes of the file, with blanks between them. */
    static String file(DocumentFile x) {
        StringBuilder seen = new StringBuilder();
        int bytes = x.count(5);
        for (int i = 0; i < bytes; i++) {
            seen.append(i == 0 ? "" : " ").append(x.octet(i));
        }
        return seen.toString();
    }

    /** All that can be seen of an object. */
    static String all(DocumentFile x) {
        return document(x) + "file " + file(x);
    }

    /** The file becomes these bytes, written as numbers with blanks between them. */
    static void load(DocumentFile x, String bytes) {
        x.cut(0);
        String[] parts = bytes.trim().split(" +");
        for (int i = 0; i < parts.length && !parts[i].isEmpty(); i++) {
            x.alter(i, Integer.parseInt(parts[i]));
        }
    }
}
