/** Promise 7: type, and the characters that "Terms" gives text runs. */
public final class Promise07TypeTest extends Cases {
    private static final long EIGHT = Start.text("12345678");

    public static void main(String[] args) {
        run(Promise07TypeTest.class);
    }

    /** A document of PLAIN with n text runs of one character each. */
    private static State runs(int n) {
        return Start.PLAIN.then(x -> {
            for (int i = 0; i < n; i++) {
                x.type(0, 0, 'a' + i % 26);
            }
        });
    }

    /** A document of PLAIN with n characters in one run. */
    private static State characters(int n) {
        return Start.PLAIN.then(x -> x.end(0, 0, -1, n));
    }

    private static void taken(State state, int run, int place, long s, String text) {
        Counted x = at(state);
        due(run + 1, x.type(0, 0, s));
        due(run + 1, x.count(3));
        due(place + text.length(), x.count(4));
        int[] parts = {0, 0, 0, -1, place, text.length()};
        for (int what = 0; what < 6; what++) {
            due(parts[what], x.run(run, what));
        }
        for (int i = 0; i < text.length(); i++) {
            due((int) text.charAt(i), x.at(place + i));
        }
        due(-1, x.at(place + text.length()));
    }

    static void theFirstRun() {
        taken(Start.PLAIN, 0, 0, 'x', "x");
    }

    static void the40thRunIsTaken() {
        taken(runs(39), 39, 39, 'x', "x");
    }

    static void the41stRunIsRefused() {
        refused(runs(40), -1, x -> x.type(0, 0, 'x'));
        refused(runs(39).then(y -> y.end(0, 0, -1, 1)), -1, x -> x.type(0, 0, 'x'));
        refused(Start.FULL, -1, x -> x.type(0, 0, 'x'));
    }

    static void the41stRunIsRefusedAgainAndAgain() {
        refused(runs(40).then(y -> y.type(0, 0, 'x')), -1, x -> x.type(0, 0, 'x'));
    }

    static void anEqualNeighbourIsOneMoreRun() {
        Counted x = at(Start.PLAIN);
        due(1, x.type(0, 0, 'a'));
        due(2, x.type(0, 0, 'a'));
        due(1, x.run(0, 5));
        due(1, x.run(1, 4));
    }

    static void theLastSetAndMarkAreTaken() {
        State many = Start.sets(24).then(Start.marks(24));
        Counted x = at(many);
        due(1, x.type(23, 23, 'x'));
        due(23, x.run(0, 1));
        due(23, x.run(0, 2));
        due(2, x.type(0, 23, 'x'));
        due(3, x.type(23, 0, 'x'));
        due(23, x.run(1, 2));
        due(0, x.run(1, 1));
    }

    static void setsThatAreNotThereAreRefused() {
        for (int set : outside(2)) {
            refused(Start.SMALL, -1, x -> x.type(set, 0, 'x'));
        }
        for (int set : outside(24)) {
            refused(Start.sets(24).then(y -> y.mark(0, 0, -1)), -1, x -> x.type(set, 0, 'x'));
        }
    }

    static void marksThatAreNotThereAreRefused() {
        for (int mark : outside(2)) {
            refused(Start.SMALL, -1, x -> x.type(0, mark, 'x'));
        }
        for (int mark : outside(24)) {
            refused(Start.sets(24).then(Start.marks(24)), -1, x -> x.type(0, mark, 'x'));
        }
    }

    static void setsAndMarksHaveCountsOfTheirOwn() {
        State threeAndOne = Start.sets(3).then(y -> y.mark(0, 0, -1));
        answers(threeAndOne, 1, x -> x.type(2, 0, 'x'));
        refused(threeAndOne, -1, x -> x.type(0, 1, 'x'));
        State oneAndThree = x -> {
            x.set();
            x.mark(0, 0, -1);
            x.mark(0, 0, -1);
            x.mark(0, 0, -1);
        };
        answers(oneAndThree, 1, x -> x.type(0, 2, 'x'));
        refused(oneAndThree, -1, x -> x.type(1, 0, 'x'));
    }

    static void noCharacterIsRefused() {
        refused(Start.SMALL, -1, x -> x.type(0, 0, 0));
    }

    static void aLowestByte0IsRefusedWhateverComesBehind() {
        refused(Start.SMALL, -1, x -> x.type(0, 0, 0x6100L));
        refused(Start.SMALL, -1, x -> x.type(0, 0, 0x6161616161616100L));
        refused(Start.SMALL, -1, x -> x.type(0, 0, 0x100000000L));
        refused(Start.SMALL, -1, x -> x.type(0, 0, 1L << 56));
    }

    static void eachLengthFrom1To8IsTaken() {
        String text = "12345678";
        for (int n = 1; n <= 8; n++) {
            taken(Start.SMALL, 3, 10, Start.text(text.substring(0, n)), text.substring(0, n));
        }
    }

    static void theFirstZeroByteEndsTheText() {
        String text = "12345678";
        for (int n = 1; n <= 7; n++) {
            long s = EIGHT & ~(255L << 8 * n);
            taken(Start.SMALL, 3, 10, s, text.substring(0, n));
        }
    }

    static void bytesBehindTheFirstZeroByteMayBeAny() {
        taken(Start.SMALL, 3, 10, 0x0A7F9F0800010061L, "a");
        taken(Start.SMALL, 3, 10, 0x0A00616161616161L, "aaaaaa");
        taken(Start.SMALL, 3, 10, 0x8000000000000061L, "a");
    }

    static void theEndsOfLong() {
        refused(Start.SMALL, -1, x -> x.type(0, 0, Long.MIN_VALUE));
        // The highest byte of the greatest long is 127, which is no character.
        refused(Start.SMALL, -1, x -> x.type(0, 0, Long.MAX_VALUE));
        taken(Start.SMALL, 3, 10, -1L, "\u00ff".repeat(8));
        taken(Start.SMALL, 3, 10, Long.MIN_VALUE + 'a', "a");
        taken(Start.SMALL, 3, 10, 0x7E7E7E7E7E7E7E7EL, "~".repeat(8));
        taken(Start.SMALL, 3, 10, 0xA0A0A0A0A0A0A0A0L, "\u00a0".repeat(8));
    }

    private static void character(int c, boolean taken) {
        for (int i = 0; i < 8; i++) {
            long s = EIGHT & ~(255L << 8 * i) | (long) c << 8 * i;
            StringBuilder text = new StringBuilder("12345678");
            text.setCharAt(i, (char) c);
            if (taken) {
                taken(Start.SMALL, 3, 10, s, text.toString());
            } else {
                refused(Start.SMALL, -1, x -> x.type(0, 0, s));
            }
        }
        if (taken) {
            taken(Start.SMALL, 3, 10, c, Character.toString(c));
        } else {
            refused(Start.SMALL, -1, x -> x.type(0, 0, c));
        }
    }

    static void character9IsTakenAnd8And10AreNot() {
        character(8, false);
        character(9, true);
        character(10, false);
    }

    static void character12IsTakenAnd11And13AreNot() {
        character(11, false);
        character(12, true);
        character(13, false);
    }

    static void character32IsTakenAnd31IsNot() {
        character(31, false);
        character(32, true);
    }

    static void character126IsTakenAnd127And128AreNot() {
        character(126, true);
        character(127, false);
        character(128, false);
    }

    static void character160IsTakenAnd159IsNot() {
        character(159, false);
        character(160, true);
    }

    static void character255IsTakenAnd1IsNot() {
        character(255, true);
        character(1, false);
    }

    static void eachByteIsACharacterOrNot() {
        for (int c = 1; c < 256; c++) {
            boolean text = c == 9 || c == 12 || c >= 32 && c <= 126 || c >= 160;
            int s = c;
            answers(Start.SMALL, text ? 4 : -1, x -> x.type(0, 0, s));
        }
    }

    static void the512thCharacterIsTaken() {
        taken(characters(511), 1, 511, 'x', "x");
        taken(characters(504), 1, 504, EIGHT, "12345678");
        taken(characters(505), 1, 505, Start.text("1234567"), "1234567");
    }

    static void the513thCharacterIsRefused() {
        refused(characters(512), -1, x -> x.type(0, 0, 'x'));
        refused(characters(512), -1, x -> x.type(0, 0, EIGHT));
        refused(characters(511), -1, x -> x.type(0, 0, Start.text("12")));
        refused(characters(505), -1, x -> x.type(0, 0, EIGHT));
        refused(Start.FULL, -1, x -> x.type(0, 0, 'x'));
    }

    static void shorterTextIsTakenBehindARefusedOne() {
        State refusedOnce = characters(505).then(x -> x.type(0, 0, EIGHT));
        taken(refusedOnce, 1, 505, Start.text("1234567"), "1234567");
    }

    static void placesCountOverAllRuns() {
        Counted x = at(Start.PLAIN);
        x.type(0, 0, Start.text("abc"));
        x.end(0, 0, -1, 4);
        x.type(0, 0, EIGHT);
        int[] places = {0, 3, 7};
        for (int run = 0; run < 3; run++) {
            due(places[run], x.run(run, 4));
        }
        due(15, x.count(4));
    }

    static void theMostTextThatCanBeTyped() {
        Counted x = at(Start.PLAIN);
        for (int i = 1; i <= 40; i++) {
            due(i, x.type(0, 0, EIGHT));
        }
        due(320, x.count(4));
        due(-1, x.type(0, 0, 'x'));
        due(320, x.count(4));
        due((int) '8', x.at(319));
    }
}
