/** Promise 14: at. */
public final class Promise14AtTest extends Cases {
    public static void main(String[] args) {
        run(Promise14AtTest.class);
    }

    static void placesCountOverAllRuns() {
        Counted x = at(Start.SMALL);
        String characters = "Hello\n\nyou";
        for (int place = 0; place < characters.length(); place++) {
            due((int) characters.charAt(place), x.at(place));
        }
    }

    static void theFirstAndTheLastOf512() {
        answers(Start.FULL, (int) 'A', x -> x.at(0));
        answers(Start.FULL, 10, x -> x.at(510));
        answers(Start.FULL, 255, x -> x.at(511));
        answers(Start.FULL, -1, x -> x.at(512));
    }

    static void charactersAbove127AreAnsweredAsTheyAre() {
        for (int c : new int[] {160, 161, 200, 254, 255}) {
            answers(Start.PLAIN.then(x -> x.type(0, 0, c)), c, x -> x.at(0));
        }
    }

    static void placesWithoutACharacterAreMinusOne() {
        for (int place : outside(0)) {
            answers(Start.NEW, -1, x -> x.at(place));
            answers(Start.PLAIN, -1, x -> x.at(place));
        }
        for (int place : outside(10)) {
            answers(Start.SMALL, -1, x -> x.at(place));
        }
        for (int place : outside(512)) {
            answers(Start.FULL, -1, x -> x.at(place));
        }
    }

    static void nothingChanges() {
        for (int place : new int[] {LEAST, -1, 0, 9, 10, MOST}) {
            same("all after at", Look.all(Start.SMALL), Look.all(Start.SMALL.then(x -> x.at(place))));
        }
    }
}
