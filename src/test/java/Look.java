import java.util.ArrayList;
import java.util.List;

/**
 * All that the calls of promises 9 to 14 and 17 answer of a state, one step beyond each end too. It takes more
 * calls than one object answers, so each object that is used up is followed by another one in the same state.
 */
final class Look {
    private final State state;
    private final List<String> seen = new ArrayList<>();
    private Counted x;

    private Look(State state) {
        this.state = state;
        begin();
    }

    static List<String> document(State state) {
        Look look = new Look(state);
        look.counts(0, 4);
        look.styles();
        look.sets();
        look.marks();
        look.runs();
        look.characters();
        return look.seen;
    }

    static List<String> file(State state) {
        Look look = new Look(state);
        look.counts(5, 5);
        look.octets();
        return look.seen;
    }

    static List<String> all(State state) {
        List<String> seen = document(state);
        seen.addAll(file(state));
        return seen;
    }

    private void begin() {
        x = new Counted();
        state.build(x);
    }

    private Counted next() {
        if (x.isUsedUp()) {
            begin();
        }
        return x;
    }

    private int see(int answer) {
        seen.add(Counted.latest() + " = " + answer);
        return answer;
    }

    private void counts(int first, int last) {
        for (int what = first; what <= last; what++) {
            see(next().count(what));
        }
    }

    private void styles() {
        int n = next().count(0);
        for (int k = -1; k <= n; k++) {
            see(next().base(k));
            properties(0, k);
        }
    }

    private void sets() {
        int n = next().count(1);
        for (int k = -1; k <= n; k++) {
            properties(1, k);
        }
    }

    private void properties(int of, int k) {
        for (int p = -1; p <= 24; p++) {
            see(next().value(of, k, p));
        }
    }

    private void marks() {
        int n = next().count(2);
        for (int k = -1; k <= n; k++) {
            for (int what = -1; what <= 3; what++) {
                see(next().changes(k, what));
            }
        }
    }

    private void runs() {
        int n = next().count(3);
        for (int k = -1; k <= n; k++) {
            for (int what = -1; what <= 6; what++) {
                see(next().run(k, what));
            }
        }
    }

    private void characters() {
        int n = next().count(4);
        for (int place = -1; place <= n; place++) {
            see(next().at(place));
        }
    }

    private void octets() {
        int n = next().count(5);
        for (int place = -1; place <= n; place++) {
            see(next().octet(place));
        }
    }
}
