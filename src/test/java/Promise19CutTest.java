/** Promise 19: cut. */
public final class Promise19CutTest extends Cases {
    public static void main(String[] args) {
        run(Promise19CutTest.class);
    }

    private static void cut(State state, int n, String bytes) {
        State after = state.then(x -> x.cut(n));
        answers(state, true, x -> x.cut(n));
        answers(after, n, x -> x.count(5));
        due("the file", bytes, bytes(after));
        same("the document", Look.document(state), Look.document(after));
    }

    static void allBytesAreKept() {
        cut(Start.SMALL, 5, "77 83 1 0 0");
    }

    static void allButTheLastAreKept() {
        cut(Start.SMALL, 4, "77 83 1 0");
    }

    static void oneIsKept() {
        cut(Start.SMALL, 1, "77");
    }

    static void noneIsKept() {
        cut(Start.SMALL, 0, "");
        cut(Start.FULL, 0, "");
    }

    static void noneOfNone() {
        cut(Start.NEW, 0, "");
        cut(Start.DOCUMENT, 0, "");
    }

    static void oneMoreThanThereAreIsRefused() {
        refused(Start.NEW, false, x -> x.cut(1));
        refused(Start.SMALL, false, x -> x.cut(6));
    }

    static void below0IsRefused() {
        refused(Start.NEW, false, x -> x.cut(-1));
        refused(Start.SMALL, false, x -> x.cut(-1));
    }

    static void farBeyondIsRefused() {
        for (int n : outside(6)) {
            refused(Start.SMALL, false, x -> x.cut(n));
        }
        for (int n : outside(1)) {
            refused(Start.NEW, false, x -> x.cut(n));
        }
        for (int n : outside(6000)) {
            refused(Start.FULL, false, x -> x.cut(n));
        }
    }

    static void bytesThatWereCutDoNotComeBack() {
        State cut = Start.SMALL.then(x -> x.cut(2));
        refused(cut, false, x -> x.cut(3));
        refused(cut, false, x -> x.cut(5));
        cut(cut, 2, "77 83");
        cut(cut, 1, "77");
    }

    static void aSavedFileIsCutAnywhere() {
        int n = at(Start.FULL).count(5);
        String bytes = bytes(Start.FULL);
        cut(Start.FULL, n, bytes);
        cut(Start.FULL, n - 1, bytes.substring(0, bytes.lastIndexOf(' ')));
        refused(Start.FULL, false, x -> x.cut(n + 1));
    }

    /** Beyond the 512 calls that are promised, as 6000 bytes are. */
    static void aFullFile() {
        State full = x -> {
            x.goBeyond();
            for (int i = 0; i < 6000; i++) {
                x.alter(i, 3);
            }
        };
        refused(full, false, x -> x.cut(6001));
        answers(full.then(x -> x.cut(6000)), 6000, x -> x.count(5));
        answers(full.then(x -> x.cut(5999)), 5999, x -> x.count(5));
    }
}
