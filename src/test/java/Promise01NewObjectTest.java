/** Promise 1: an empty document, and a file without bytes. */
public final class Promise01NewObjectTest extends Cases {
    public static void main(String[] args) {
        run(Promise01NewObjectTest.class);
    }

    static void theDocumentIsEmpty() {
        Counted x = new Counted();
        for (int what = 0; what <= 4; what++) {
            due(0, x.count(what));
        }
    }

    static void theFileHasNoBytes() {
        Counted x = new Counted();
        due(0, x.count(5));
        due(-1, x.octet(0));
        due(-1, x.octet(-1));
    }

    static void nothingIsThereToLookAt() {
        Counted x = new Counted();
        due(-2, x.base(0));
        due(-2, x.base(-1));
        due(-2, x.value(0, 0, 0));
        due(-2, x.value(1, 0, 0));
        due(-2, x.changes(0, 0));
        due(-2, x.run(0, 0));
        due(-1, x.at(0));
        due(-1, x.at(-1));
    }

    static void noStyleIsThereYet() {
        refused(Start.NEW, -1, x -> x.style(0));
        refused(Start.NEW, false, x -> x.property(0, 0, 0, 0));
        refused(Start.NEW, false, x -> x.property(0, 0, 0, -1));
        refused(Start.PLAIN, -1, x -> x.end(0, 0, 0, 1));
    }

    static void noSetIsThereYet() {
        refused(Start.NEW, false, x -> x.property(1, 0, 0, 0));
        refused(Start.NEW, -1, x -> x.mark(0, 0, 0));
        State mark = x -> x.mark(0, 0, -1);
        refused(mark, -1, x -> x.type(0, 0, 'a'));
        refused(mark, -1, x -> x.end(0, 0, -1, 1));
    }

    static void noMarkIsThereYet() {
        State set = x -> x.set();
        refused(set, -1, x -> x.type(0, 0, 'a'));
        refused(set, -1, x -> x.end(0, 0, -1, 1));
    }

    static void openIsRefusedAtPlace0() {
        refused(Start.NEW, 1, x -> x.open());
    }

    static void saveMakesTheFileOfAnEmptyDocument() {
        answers(Start.NEW, 5, x -> x.save());
        due("the file", "77 83 1 0 0", bytes(x -> x.save()));
    }

    static void theFirstByteComesAt0() {
        refused(Start.NEW, false, x -> x.alter(-1, 7));
        refused(Start.NEW, false, x -> x.alter(1, 7));
        answers(Start.NEW, true, x -> x.alter(0, 7));
    }

    static void onlyNoneCanBeCut() {
        refused(Start.NEW, false, x -> x.cut(-1));
        refused(Start.NEW, false, x -> x.cut(1));
        answers(Start.NEW, true, x -> x.cut(0));
    }

    static void objectsAreApart() {
        Counted x = new Counted();
        Start.FULL.build(new Counted());
        for (int what = 0; what <= 5; what++) {
            due(0, x.count(what));
        }
        Start.SMALL.build(x);
        at(Start.FULL).clear();
        due(10, x.count(4));
        due((int) 'H', x.at(0));
        due(5, x.count(5));
    }

    static void the512thCallIsAnswered() {
        Counted x = new Counted();
        for (int i = 0; i < 511; i++) {
            due(true, x.alter(i, i));
        }
        due(511, x.count(5));
        due("all 512 calls are made", true, x.isUsedUp());
    }
}
