/** Counts and prints the answers of a test that are not the ones due. */
final class Check {
    private int looked = 0;
    private int wrong = 0;

    void due(String call, long got, long want) {
        due(call, Long.toString(got), Long.toString(want));
    }

    void due(String call, boolean got, boolean want) {
        due(call, Boolean.toString(got), Boolean.toString(want));
    }

    void due(String call, String got, String want) {
        looked++;
        if (!got.equals(want)) {
            wrong++;
            System.out.println(call + " answered " + got + ", due is " + want);
        }
    }

    /** Ends the test: exit code 1 if an answer was wrong, or if none was looked at. */
    void finish() {
        System.out.println(looked + " answers looked at, " + wrong + " wrong");
        if (wrong != 0 || looked == 0) {
            System.exit(1);
        }
    }
}
