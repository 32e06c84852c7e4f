/** Promise 8: end. */
public final class Promise08EndTest extends Cases {
    public static void main(String[] args) {
        run(Promise08EndTest.class);
    }

    /** A document of PLAIN with n end runs of one character each. */
    private static State runs(int n) {
        return Start.PLAIN.then(x -> {
            for (int i = 0; i < n; i++) {
                x.end(0, 0, -1, 1);
            }
        });
    }

    private static void taken(State state, int run, int place, int style, int n) {
        Counted x = at(state);
        due(run + 1, x.end(0, 0, style, n));
        due(run + 1, x.count(3));
        due(place + n, x.count(4));
        int[] parts = {1, 0, 0, style, place, n};
        for (int what = 0; what < 6; what++) {
            due(parts[what], x.run(run, what));
        }
        due(10, x.at(place));
        due(10, x.at(place + n / 2));
        due(10, x.at(place + n - 1));
        due(-1, x.at(place + n));
    }

    static void oneCharacterIsTaken() {
        taken(Start.PLAIN, 0, 0, -1, 1);
        taken(Start.SMALL, 3, 10, 1, 1);
    }

    static void noCharacterIsRefused() {
        refused(Start.PLAIN, -1, x -> x.end(0, 0, -1, 0));
        refused(Start.SMALL, -1, x -> x.end(0, 0, 1, 0));
    }

    static void fewerThanNoneIsRefused() {
        refused(Start.SMALL, -1, x -> x.end(0, 0, 1, -1));
        refused(Start.SMALL, -1, x -> x.end(0, 0, 1, -10));
        refused(Start.SMALL, -1, x -> x.end(0, 0, 1, -512));
        refused(Start.SMALL, -1, x -> x.end(0, 0, 1, LEAST));
        refused(Start.SMALL, -1, x -> x.end(0, 0, 1, LEAST + 1));
    }

    static void the512thCharacterIsTaken() {
        taken(Start.PLAIN, 0, 0, -1, 512);
        taken(Start.SMALL, 3, 10, 0, 502);
        taken(Start.SMALL.then(x -> x.end(0, 0, -1, 501)), 4, 511, 0, 1);
    }

    static void the513thCharacterIsRefused() {
        refused(Start.PLAIN, -1, x -> x.end(0, 0, -1, 513));
        refused(Start.SMALL, -1, x -> x.end(0, 0, 0, 503));
        refused(Start.SMALL.then(y -> y.end(0, 0, -1, 501)), -1, x -> x.end(0, 0, 0, 2));
        refused(Start.SMALL.then(y -> y.end(0, 0, -1, 502)), -1, x -> x.end(0, 0, 0, 1));
        refused(Start.FULL, -1, x -> x.end(0, 0, 0, 1));
    }

    static void noSumOfCharactersWrapsAround() {
        for (int n : new int[] {65536, 65537, 1 << 24, 1 << 30, MOST - 511, MOST - 10, MOST - 9, MOST - 1, MOST}) {
            refused(Start.PLAIN, -1, x -> x.end(0, 0, -1, n));
            refused(Start.SMALL, -1, x -> x.end(0, 0, 1, n));
            refused(Start.SMALL.then(y -> y.end(0, 0, -1, 502)), -1, x -> x.end(0, 0, 1, n));
        }
    }

    static void fewerAreTakenBehindARefusedCall() {
        taken(Start.SMALL.then(x -> x.end(0, 0, 0, 503)), 3, 10, 0, 502);
    }

    static void the40thRunIsTaken() {
        taken(runs(39), 39, 39, -1, 1);
        taken(runs(39), 39, 39, -1, 473);
    }

    static void the41stRunIsRefused() {
        refused(runs(40), -1, x -> x.end(0, 0, -1, 1));
        refused(runs(39).then(y -> y.type(0, 0, 'a')), -1, x -> x.end(0, 0, -1, 1));
    }

    static void the41stRunIsRefusedAgainAndAgain() {
        refused(runs(40).then(y -> y.end(0, 0, -1, 1)), -1, x -> x.end(0, 0, -1, 1));
    }

    static void anEqualNeighbourIsOneMoreRun() {
        Counted x = at(Start.PLAIN);
        due(1, x.end(0, 0, -1, 2));
        due(2, x.end(0, 0, -1, 3));
        due(2, x.run(0, 5));
        due(2, x.run(1, 4));
        due(3, x.run(1, 5));
    }

    static void styleNoneIsTaken() {
        taken(Start.SMALL, 3, 10, -1, 2);
    }

    static void styleBelowNoneIsRefused() {
        refused(Start.PLAIN, -1, x -> x.end(0, 0, -2, 1));
        refused(Start.SMALL, -1, x -> x.end(0, 0, -2, 1));
    }

    static void theFirstStyleIsTaken() {
        taken(Start.SMALL, 3, 10, 0, 2);
    }

    static void theLastStyleIsTaken() {
        taken(Start.SMALL, 3, 10, 1, 2);
        taken(Start.styles(16).then(Start.PLAIN), 0, 0, 15, 2);
    }

    static void stylesThatAreNotThereAreRefused() {
        for (int style : outsideAndNotNone(0)) {
            refused(Start.PLAIN, -1, x -> x.end(0, 0, style, 1));
        }
        for (int style : outsideAndNotNone(2)) {
            refused(Start.SMALL, -1, x -> x.end(0, 0, style, 1));
        }
        for (int style : outsideAndNotNone(16)) {
            refused(Start.styles(16).then(Start.PLAIN), -1, x -> x.end(0, 0, style, 1));
        }
    }

    static void theLastSetAndMarkAreTaken() {
        Counted x = at(Start.sets(24).then(Start.marks(24)));
        due(1, x.end(23, 23, -1, 1));
        due(23, x.run(0, 1));
        due(23, x.run(0, 2));
        due(2, x.end(0, 23, -1, 1));
        due(3, x.end(23, 0, -1, 1));
        due(0, x.run(1, 1));
        due(0, x.run(2, 2));
    }

    static void setsThatAreNotThereAreRefused() {
        for (int set : outside(2)) {
            refused(Start.SMALL, -1, x -> x.end(set, 0, 0, 1));
        }
        for (int set : outside(24)) {
            refused(Start.sets(24).then(y -> y.mark(0, 0, -1)), -1, x -> x.end(set, 0, -1, 1));
        }
    }

    static void marksThatAreNotThereAreRefused() {
        for (int mark : outside(2)) {
            refused(Start.SMALL, -1, x -> x.end(0, mark, 0, 1));
        }
        for (int mark : outside(24)) {
            refused(Start.sets(24).then(Start.marks(24)), -1, x -> x.end(0, mark, -1, 1));
        }
    }

    static void stylesSetsAndMarksHaveCountsOfTheirOwn() {
        State threeStyles = Start.styles(3).then(Start.PLAIN);
        answers(threeStyles, 1, x -> x.end(0, 0, 2, 1));
        refused(threeStyles, -1, x -> x.end(1, 0, 2, 1));
        refused(threeStyles, -1, x -> x.end(0, 1, 2, 1));
        State threeSets = Start.styles(1).then(Start.sets(3)).then(y -> y.mark(0, 0, -1));
        answers(threeSets, 1, x -> x.end(2, 0, 0, 1));
        refused(threeSets, -1, x -> x.end(2, 1, 0, 1));
        refused(threeSets, -1, x -> x.end(2, 0, 1, 1));
    }

    static void allCharactersOfTheRunAreEnds() {
        Counted x = at(Start.PLAIN.then(y -> y.type(0, 0, 'a')));
        x.end(0, 0, -1, 400);
        due((int) 'a', x.at(0));
        for (int place = 1; place <= 400; place++) {
            due(10, x.at(place));
        }
        due(-1, x.at(401));
    }
}
