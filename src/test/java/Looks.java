import java.util.LinkedHashMap;
import java.util.Map;
import java.util.function.Supplier;
import java.util.function.ToLongFunction;

/**
 * All that can be asked of an object, with its answers. The object is made anew again and again, so that none is
 * used for more than the document's 512 calls.
 */
final class Looks {
    private static final int CALLS = 300;

    private final Map<String, Long> seen;
    private final String when;
    private final Supplier<CableForest> maker;
    private CableForest x;
    private int asked = 0;

    private Looks(Map<String, Long> seen, String when, Supplier<CableForest> maker) {
        this.seen = seen;
        this.when = when;
        this.maker = maker;
        x = maker.get();
    }

    static Map<String, Long> at(Supplier<CableForest> maker) {
        Map<String, Long> seen = new LinkedHashMap<>();
        Looks now = new Looks(seen, "", maker);
        now.ask("why", CableForest::why);
        now.ask("fault", CableForest::fault);
        now.askAll();
        int remembered = maker.get().count(14);
        for (int i = 1; i <= remembered; i++) {
            int undos = i;
            new Looks(seen, i + " undos, ", () -> undone(maker.get(), undos)).askState();
        }
        now.asked = CALLS;
        now.ask("image", y -> y.back() ? 1 : 0);
        if (maker.get().back()) {
            new Looks(seen, "back, ", () -> goneBack(maker.get())).askState();
        }
        now.asked = CALLS;
        now.ask("tape", y -> y.feed(0, 0, 0, 0, 0));
        now.asked = CALLS;
        now.ask("tape read", y -> Checks.of(y::acts) * 1000 + y.fault() * 100 + y.count(2));
        return seen;
    }

    private static CableForest undone(CableForest x, int undos) {
        for (int i = 0; i < undos; i++) {
            Checks.of(x::undo);
        }
        return x;
    }

    private static CableForest goneBack(CableForest x) {
        x.back();
        return x;
    }

    private void ask(String name, ToLongFunction<CableForest> question) {
        if (asked >= CALLS) {
            x = maker.get();
            asked = 0;
        }
        asked++;
        CableForest y = x;
        seen.put(when + name, Checks.of(() -> question.applyAsLong(y)));
    }

    private void askState() {
        for (int what = -1; what <= 18; what++) {
            int w = what;
            ask("count " + w, y -> y.count(w));
        }
        int nodes = maker.get().count(0);
        int height = maker.get().count(1);
        int laid = maker.get().count(2);
        for (int c = 0; c < laid; c++) {
            askCable(c);
        }
        for (int n = 0; n < nodes; n++) {
            askNode(n);
            for (int l = 0; l <= height; l++) {
                askTour(l, n);
            }
        }
        for (int k = -1; k <= 40; k++) {
            for (int what = 0; what < 3; what++) {
                int row = k;
                int w = what;
                ask("log " + row + " " + w, y -> y.log(row, w));
            }
        }
    }

    private void askAll() {
        askState();
        int nodes = maker.get().count(0);
        int height = maker.get().count(1);
        ask("hinges", CableForest::hinges);
        for (int l = 0; l <= height; l++) {
            askLevel(l);
        }
        for (int n = 0; n < nodes; n++) {
            for (int o = 0; o < nodes; o++) {
                askPair(n, o);
                for (int l = 0; l <= height; l++) {
                    askKin(l, n, o);
                }
            }
        }
    }

    private void askCable(int c) {
        for (int what = 0; what <= 6; what++) {
            int w = what;
            ask("cable " + c + " " + w, y -> y.cable(c, w));
        }
        ask("heir " + c, y -> y.heir(c));
        ask("bridge " + c, y -> y.bridge(c) ? 1 : 0);
        ask("would look " + c, y -> y.would(c, 0));
        ask("would rise " + c, y -> y.would(c, 1));
    }

    private void askNode(int n) {
        for (int what = 0; what <= 5; what++) {
            int w = what;
            ask("node " + n + " " + w, y -> y.node(n, w));
        }
        ask("named " + n, y -> y.named(n));
        for (int far = 0; far <= 3; far++) {
            int f = far;
            ask("within " + n + " " + f, y -> y.within(n, f));
        }
    }

    private void askTour(int l, int n) {
        CableForest one = maker.get();
        int length = 0;
        while (length < 50 && one.tour(l, n, length) != CableForest.NONE) {
            length++;
        }
        for (int k = 0; k <= length; k++) {
            int at = k;
            ask("tour " + l + " " + n + " " + at, y -> y.tour(l, n, at));
        }
    }

    private void askLevel(int l) {
        for (int what = 0; what <= 3; what++) {
            int w = what;
            ask("level " + l + " " + w, y -> y.level(l, w));
        }
    }

    private void askPair(int n, int o) {
        ask("connected " + n + " " + o, y -> y.connected(n, o) ? 1 : 0);
        ask("near " + n + " " + o, y -> y.near(n, o));
        ask("odds " + n + " " + o, y -> y.odds(n, o));
        ask("fare " + n + " " + o, y -> y.fare(n, o));
        ask("cut " + n + " " + o, y -> y.cut(n, o));
        for (int k = -1; k <= 2; k++) {
            int at = k;
            ask("way " + n + " " + o + " " + at, y -> y.way(n, o, at));
        }
    }

    private void askKin(int l, int n, int o) {
        if (o == 0) {
            ask("part " + l + " " + n, y -> y.part(l, n));
            ask("deep " + l + " " + n, y -> y.deep(l, n));
            ask("above " + l + " " + n, y -> y.kin(l, n, 0));
            ask("below " + l + " " + n, y -> y.kin(l, n, 1));
        }
        ask("meet " + l + " " + n + " " + o, y -> y.meet(l, n, o));
    }
}
