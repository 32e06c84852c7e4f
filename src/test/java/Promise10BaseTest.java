/** Promise 10: base. */
public final class Promise10BaseTest extends Cases {
    public static void main(String[] args) {
        run(Promise10BaseTest.class);
    }

    static void noneIsMinusOne() {
        answers(Start.SMALL, -1, x -> x.base(0));
    }

    static void theLastStyleHasOne() {
        answers(Start.SMALL, 0, x -> x.base(1));
        answers(Start.styles(16), 14, x -> x.base(15));
        answers(Start.styles(15).then(x -> x.style(-1)), -1, x -> x.base(15));
    }

    static void eachHasItsOwn() {
        Counted x = new Counted();
        int[] bases = {-1, 0, 0, 2, 1, -1, 5, 0, 7, 8, 3, 10, 11, 12, 0, 14};
        for (int base : bases) {
            x.style(base);
        }
        for (int i = 0; i < 16; i++) {
            due(bases[i], x.base(i));
        }
    }

    static void stylesThatAreNotThereAreMinusTwo() {
        for (int style : outside(0)) {
            answers(Start.NEW, -2, x -> x.base(style));
            answers(Start.sets(3), -2, x -> x.base(style));
        }
        for (int style : outside(2)) {
            answers(Start.SMALL, -2, x -> x.base(style));
        }
        for (int style : outside(16)) {
            answers(Start.FULL, -2, x -> x.base(style));
        }
    }

    static void theBaseMayBeALaterStyleInAFile() {
        State opened = Start.file("77 83 1 3 3 0 0 0 2 0 0").then(x -> x.open());
        answers(opened, 2, x -> x.base(0));
        answers(opened, -1, x -> x.base(1));
        answers(opened, 1, x -> x.base(2));
        answers(opened, -2, x -> x.base(3));
    }

    static void nothingChanges() {
        for (int i = -1; i <= 2; i++) {
            int style = i;
            same("all after base", Look.all(Start.SMALL), Look.all(Start.SMALL.then(x -> x.base(style))));
        }
    }
}
