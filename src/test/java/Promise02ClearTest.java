/** Promise 2: clear. */
public final class Promise02ClearTest extends Cases {
    private static final State CLEARED = Start.FULL.then(x -> x.clear());

    public static void main(String[] args) {
        run(Promise02ClearTest.class);
    }

    private static void empty(State state) {
        same("a cleared document", Look.document(Start.NEW), Look.document(state));
    }

    static void anEmptyDocumentStaysEmpty() {
        empty(x -> x.clear());
    }

    static void aSmallDocumentGoes() {
        empty(Start.SMALL.then(x -> x.clear()));
    }

    static void aFullDocumentGoes() {
        empty(CLEARED);
        Counted x = at(CLEARED);
        due(-2, x.base(15));
        due(-2, x.value(0, 15, 0));
        due(-2, x.value(1, 23, 8));
        due(-2, x.changes(23, 0));
        due(-2, x.run(39, 0));
        due(-1, x.at(511));
    }

    static void twiceIsAsOnce() {
        empty(CLEARED.then(x -> x.clear()));
    }

    static void anOpenedDocumentGoes() {
        empty(Start.FULL.then(x -> x.open()).then(x -> x.clear()));
    }

    static void theFileStays() {
        same("the file", Look.file(Start.FULL), Look.file(CLEARED));
        same("the file", Look.file(Start.SMALL), Look.file(Start.SMALL.then(x -> x.clear())));
    }

    static void aFileWithoutBytesStays() {
        answers(Start.FULL.then(x -> x.cut(0)).then(x -> x.clear()), 0, x -> x.count(5));
    }

    static void theFileThatStaysOpens() {
        State opened = CLEARED.then(x -> x.open());
        answers(CLEARED, 0, x -> x.open());
        same("the document", Look.document(Start.FULL.then(x -> x.open())), Look.document(opened));
    }

    static void asMuchAsBeforeComesAgain() {
        same("all again", Look.all(Start.FULL), Look.all(CLEARED.then(Start.FULL)));
    }

    static void noneOfTheOldStylesIsABase() {
        refused(CLEARED, -1, x -> x.style(0));
        refused(CLEARED, -1, x -> x.style(15));
    }

    static void noneOfTheOldTakesAProperty() {
        refused(CLEARED, false, x -> x.property(0, 0, 0, 1));
        refused(CLEARED, false, x -> x.property(1, 0, 0, 1));
    }

    static void noneOfTheOldSetsAndMarksIsUsed() {
        refused(CLEARED, -1, x -> x.mark(0, 0, 0));
        refused(CLEARED.then(y -> y.set()), -1, x -> x.type(0, 0, 'a'));
        refused(CLEARED.then(y -> y.mark(0, 0, -1)), -1, x -> x.type(0, 0, 'a'));
        refused(CLEARED.then(Start.PLAIN), -1, x -> x.end(0, 0, 0, 1));
    }

    static void newStylesHaveNothingOfTheOld() {
        Counted x = at(CLEARED);
        for (int i = 0; i < 2; i++) {
            due(i, x.style(-1));
            due(-1, x.base(i));
            for (int p = 0; p < 24; p++) {
                due(-1, x.value(0, i, p));
            }
        }
    }

    static void newSetsHaveNothingOfTheOld() {
        Counted x = at(CLEARED);
        for (int i = 0; i < 2; i++) {
            due(i, x.set());
            for (int p = 0; p < 24; p++) {
                due(-1, x.value(1, i, p));
            }
        }
    }

    static void placesBeginAt0Again() {
        Counted x = at(CLEARED.then(Start.PLAIN));
        due(1, x.type(0, 0, 'z'));
        due(0, x.run(0, 4));
        due(1, x.run(0, 5));
        due((int) 'z', x.at(0));
        due(-1, x.at(1));
    }

    static void savedIsTheEmptyDocument() {
        answers(CLEARED, 5, x -> x.save());
        due("the file", "77 83 1 0 0", bytes(CLEARED.then(x -> x.save())));
    }
}
