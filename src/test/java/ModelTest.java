import java.util.ArrayList;
import java.util.List;
import java.util.Random;

/** Runs of calls by chance (always the same ones), all that can be asked held against Model behind each. */
public final class ModelTest {
    private static int wrong = 0;
    private static final StringBuilder RUN = new StringBuilder();

    private CableForest x = new CableForest();
    private Model m = new Model(4);
    private List<Model> past = new ArrayList<>();
    private Model kept = null;
    private int why = 0;
    private int fault = -1;
    private final Random dice;

    private ModelTest(long seed) {
        dice = new Random(seed);
    }

    public static void main(String[] args) {
        int runs = args.length > 0 ? Integer.parseInt(args[0]) : 400;
        for (int seed = 0; seed < runs && wrong < 5; seed++) {
            RUN.setLength(0);
            RUN.append("seed ").append(seed).append(':');
            new ModelTest(seed).run();
        }
        if (wrong > 0) {
            System.exit(1);
        }
        System.out.println("the model and the class agree");
    }

    private void run() {
        int nodes = dice.nextInt(3) == 0 ? 4 : 2 + dice.nextInt(dice.nextInt(3) == 0 ? 15 : 7);
        check("net", x.net(nodes), new Model(nodes).height());
        m = new Model(nodes);
        int steps = 10 + dice.nextInt(90);
        for (int i = 0; i < steps && wrong < 5; i++) {
            step();
            cheap();
            if (dice.nextInt(6) == 0) {
                all();
            }
        }
        all();
    }

    private void check(String what, long got, long want) {
        if (got != want && wrong < 5) {
            wrong++;
            System.out.println(RUN + " then " + what + " answered " + got + ", due is " + want);
        }
    }

    private void step() {
        int d = dice.nextInt(100);
        int n = m.nodes;
        int c = m.cables.size();
        if (d < 45) {
            call("lay", dice.nextInt(40) == 0 ? n : dice.nextInt(n), dice.nextInt(n));
        } else if (d < 68) {
            call("lift", dice.nextInt(c + 1) - dice.nextInt(2), 0);
        } else if (d < 73) {
            call("cost", dice.nextInt(c + 1), dice.nextInt(100));
        } else if (d < 80) {
            for (int i = 0; i < 6; i++) {
                call("swap", dice.nextInt(c + 1) - dice.nextInt(2), dice.nextInt(c + 1));
            }
        } else if (d < 83) {
            call("fail", dice.nextInt(n + 1) - dice.nextInt(2), 0);
        } else if (d < 86) {
            call("tidy", 0, 0);
        } else if (d < 91) {
            undo();
        } else if (d < 93) {
            image();
        } else if (d == 93) {
            net();
        } else {
            text();
        }
    }

    private void call(String word, int a, int b) {
        RUN.append(' ').append(word).append('(').append(a).append(',').append(b).append(')');
        Model ahead = m.copy();
        int[] due = m.act(word, a, b);
        why = due[0];
        int got;
        boolean thrown = false;
        try {
            switch (word) {
                case "lay": got = x.lay(a, b); break;
                case "lift": got = x.lift(a); break;
                case "cost": got = x.cost(a, b); break;
                case "swap": got = x.swap(a, b); break;
                case "fail": got = x.fail(a); break;
                default: got = x.tidy(); break;
            }
        } catch (IllegalStateException e) {
            thrown = true;
            got = 0;
        }
        check("throws", thrown ? 1 : 0, due[0] != 0 ? 1 : 0);
        check("answer", got, due[1]);
        if (due[0] == 0) {
            past.add(ahead);
            if (past.size() > 8) {
                past.remove(0);
            }
        }
    }

    private void undo() {
        RUN.append(" undo");
        int got;
        try {
            got = x.undo();
        } catch (IllegalStateException e) {
            got = -7;
        }
        check("undo", got, past.isEmpty() ? -7 : past.size() - 1);
        if (!past.isEmpty()) {
            m = past.remove(past.size() - 1);
        }
    }

    private void image() {
        if (dice.nextBoolean()) {
            RUN.append(" image");
            x.image();
            kept = m.copy();
        } else {
            RUN.append(" back");
            check("back", x.back() ? 1 : 0, kept == null ? 0 : 1);
            if (kept != null) {
                m = kept.copy();
                past.clear();
            }
        }
    }

    private void net() {
        int nodes = dice.nextInt(20);
        RUN.append(" net(").append(nodes).append(')');
        int got;
        try {
            got = x.net(nodes);
        } catch (IllegalArgumentException e) {
            got = -7;
        }
        if (nodes >= 2 && nodes <= 16) {
            m = new Model(nodes);
            past.clear();
            why = 0;
            check("net", got, m.height());
        } else {
            check("net", got, -7);
        }
    }

    private String blanks() {
        return " ".repeat(Math.max(0, dice.nextInt(5) - 3));
    }

    /** A text that is right but for what the acts themselves refuse, put together with where each act begins. */
    private void text() {
        StringBuilder t = new StringBuilder(blanks());
        List<String> words = new ArrayList<>();
        List<List<Integer>> told = new ArrayList<>();
        List<Integer> begins = new ArrayList<>();
        int acts = dice.nextInt(12) == 0 ? 15 : dice.nextInt(5);
        Model ahead = m.copy();
        int laid = ahead.cables.size();
        for (int i = 0; i < acts && t.length() < 300; i++) {
            t.append(i > 0 ? ";" : "").append(blanks());
            begins.add(t.length());
            String word = List.of("lay", "lay", "lay", "lift", "lift", "swap", "fail", "tidy", "cost", "net").get(dice.nextInt(dice.nextInt(5) == 0 ? 10 : 9));
            words.add(word);
            t.append(word);
            List<Integer> numbers = new ArrayList<>();
            int times = word.equals("lay") || word.equals("lift") ? 1 + dice.nextInt(3) : 1;
            for (int k = 0; k < times; k++) {
                t.append(k > 0 ? "," : "").append(blanks());
                for (int number : numbersOf(word, laid)) {
                    numbers.add(number);
                    t.append(numbers.size() > 1 ? " " : "").append(number < 10 && dice.nextInt(9) == 0 ? "0" : "").append(number).append(blanks());
                }
            }
            told.add(numbers);
        }
        t.append(blanks());
        judge(t.toString(), words, told, begins);
    }

    private int[] numbersOf(String word, int laid) {
        int n = m.nodes;
        int cable = Math.min(59, dice.nextInt(laid + 2));
        switch (word) {
            case "lay":
                int a = dice.nextInt(n);
                return new int[] {a, dice.nextInt(30) == 0 ? a : (a + 1 + dice.nextInt(n - 1)) % n};
            case "lift": return new int[] {cable};
            case "swap": return new int[] {cable, Math.min(59, dice.nextInt(laid + 2))};
            case "fail": return new int[] {dice.nextInt(Math.min(16, n + 1))};
            case "cost": return new int[] {cable, dice.nextInt(100)};
            case "net": return new int[] {2 + dice.nextInt(15)};
            default: return new int[0];
        }
    }

    private void judge(String text, List<String> words, List<List<Integer>> told, List<Integer> begins) {
        boolean tries = dice.nextInt(3) == 0;
        RUN.append(tries ? " tries<" : " acts<").append(text).append('>');
        Model aside = m.copy();
        int refused = 0;
        fault = -1;
        for (int i = 0; i < words.size() && fault == -1; i++) {
            if (i == 14) {
                fault = begins.get(i);
                break;
            }
            List<Integer> numbers = told.get(i);
            int each = List.of("lay", "swap", "cost").contains(words.get(i)) ? 2 : 1;
            if (words.get(i).equals("net")) {
                aside = new Model(numbers.get(0));
                continue;
            }
            for (int k = 0; k < Math.max(1, numbers.size()) && refused == 0; k += each) {
                int a = numbers.size() > k ? numbers.get(k) : 0;
                int b = numbers.size() > k + 1 ? numbers.get(k + 1) : 0;
                refused = aside.act(words.get(i), a, b)[0];
            }
            fault = refused != 0 ? begins.get(i) : -1;
        }
        Tapes.put(x, text);
        int got;
        try {
            got = tries ? x.tries() : x.acts();
        } catch (IllegalArgumentException e) {
            got = -7;
        }
        check("text", got, fault != -1 ? -7 : tries ? aside.tours.get(0).size() : words.size());
        check("tape", x.end(1) ? 1 : 0, 0);
        if (!tries) {
            if (fault == -1) {
                m = aside;
                past.clear();
                why = words.isEmpty() ? why : 0;
            } else if (refused != 0) {
                why = refused;
            }
        }
    }

    private void cheap() {
        check("why", x.why(), why);
        check("fault", x.fault(), fault);
        check("remembered", x.count(14), past.size());
        check("nodes", x.count(0), m.nodes);
        check("laid", x.count(2), m.cables.size());
        check("risen", x.count(7), m.risen);
        check("looked", x.count(8), m.looked);
        check("rows", x.count(17), m.log.size());
        for (int k = 0; k < m.log.size(); k++) {
            for (int w = 0; w < 3; w++) {
                check("log " + k + " " + w, x.log(k, w), m.log.get(k)[w]);
            }
        }
        for (int k = 0; k < m.cables.size(); k++) {
            Model.Cable c = m.cables.get(k);
            check("end", x.cable(k, 0), c.first);
            check("end", x.cable(k, 1), c.second);
            check("kind " + k, x.cable(k, 2), List.of("TREE", "SPARE", "LIFTED").indexOf(c.kind));
            check("level " + k, x.cable(k, 3), c.level);
            check("rose " + k, x.cable(k, 4), c.rose);
            check("cost " + k, x.cable(k, 5), c.cost);
        }
        for (int level = 0; level <= m.height(); level++) {
            for (int n = 0; n < m.nodes; n++) {
                tours(level, n);
            }
        }
        for (int n = 0; n < m.nodes; n++) {
            check("name " + n, x.node(n, 0), m.names[n]);
        }
    }

    private void tours(int level, int n) {
        List<Integer> tour = m.tourOf(level, n);
        List<Integer> seen = new ArrayList<>();
        for (int k = 0; k < tour.size(); k++) {
            int item = tour.get(k);
            int due = item < 1000 ? item : item - 1000 + (seen.contains(item) ? 200 : 100);
            seen.add(item);
            check("tour " + level + " " + n + " " + k, x.tour(level, n, k), due);
        }
        check("tour's end", x.tour(level, n, tour.size()), -1);
        check("part", x.part(level, n), Model.bitsOf(tour));
    }

    private void all() {
        counts();
        for (int k = 0; k < m.cables.size(); k++) {
            cable(k);
        }
        int[][] near = m.nears(-1, -1);
        int[][] fare = m.floyd(-1, -1, true);
        for (int a = 0; a < m.nodes; a++) {
            node(a, near);
            for (int b = 0; b < m.nodes; b++) {
                boolean tied = near[a][b] < 1000;
                check("connected", x.connected(a, b) ? 1 : 0, tied ? 1 : 0);
                check("near", x.near(a, b), tied ? near[a][b] : -1);
                check("fare", x.fare(a, b), tied ? fare[a][b] : -1);
                List<Integer> way = m.way(a, b);
                check("way", x.way(a, b, -1), way.size() - 1);
                for (int k = 0; k <= way.size(); k++) {
                    check("way " + k, x.way(a, b, k), k < way.size() ? way.get(k) : -1);
                }
                if (m.nodes <= 9) {
                    check("cut", x.cut(a, b), m.cut(a, b));
                }
                if (dice.nextInt(20) == 0) {
                    check("odds", x.odds(a, b), m.odds(a, b));
                }
            }
        }
        for (int level = 0; level <= m.height(); level++) {
            level(level);
        }
    }

    private void counts() {
        int[] due = new int[18];
        due[0] = m.nodes;
        due[1] = m.height();
        due[2] = m.cables.size();
        due[6] = m.tours.get(0).size();
        due[7] = m.risen;
        due[8] = m.looked;
        due[13] = -1;
        due[14] = past.size();
        due[15] = -1;
        due[16] = m.cheapest();
        due[17] = m.log.size();
        int most = 0;
        for (int k = 0; k < m.cables.size(); k++) {
            Model.Cable c = m.cables.get(k);
            if (!c.there()) {
                continue;
            }
            due[3]++;
            due[c.kind.equals("TREE") ? 4 : 5]++;
            due[9] += c.kind.equals("TREE") && m.copy().lift(k) == -1 ? 1 : 0;
            due[11] += m.inCircle(k) ? 1 : 0;
            for (int j = 0; j < k; j++) {
                Model.Cable o = m.cables.get(j);
                due[12] += o.there() && o.has(c.first) && o.has(c.second) ? 1 : 0;
            }
            due[13] = Math.max(due[13], c.level);
            int loss = m.loss(k);
            if (loss > most) {
                most = loss;
                due[15] = k;
            }
        }
        for (int[] row : m.nears(-1, -1)) {
            for (int d : row) {
                due[10] = d < 1000 ? Math.max(due[10], d) : due[10];
            }
        }
        for (int what = 0; what < 18; what++) {
            check("count " + what, x.count(what), due[what]);
        }
        check("hinges", x.hinges(), m.hinges());
        for (int name = -1; name < 18; name++) {
            int least = -1;
            for (int n = m.nodes - 1; n >= 0; n--) {
                least = m.names[n] == name ? n : least;
            }
            check("named " + name, x.named(name), least);
        }
    }

    private void cable(int k) {
        Model.Cable c = m.cables.get(k);
        check("loss " + k, x.cable(k, 6), c.there() ? m.loss(k) : 0);
        Model aside = m.copy();
        int heir = c.there() ? aside.lift(k) : -1;
        check("bridge " + k, x.bridge(k) ? 1 : 0, c.kind.equals("TREE") && heir == -1 ? 1 : 0);
        if (c.kind.equals("TREE")) {
            check("heir " + k, x.heir(k), heir);
        }
        if (c.there()) {
            check("would looked " + k, x.would(k, 0), aside.looked - m.looked);
            check("would rise " + k, x.would(k, 1), aside.risen - m.risen);
        }
    }

    private void node(int a, int[][] near) {
        int bits = 0;
        int span = 0;
        int degree = 0;
        int trees = 0;
        for (int b = 0; b < m.nodes; b++) {
            if (near[a][b] < 1000) {
                bits |= 1 << b;
                span = Math.max(span, near[a][b]);
            }
        }
        for (Model.Cable c : m.cables) {
            degree += c.there() && c.has(a) ? 1 : 0;
            trees += c.kind.equals("TREE") && c.has(a) ? 1 : 0;
        }
        check("node 1", x.node(a, 1), bits);
        check("node 2", x.node(a, 2), degree);
        check("node 3", x.node(a, 3), trees);
        check("span", x.node(a, 4), span);
        if (dice.nextInt(4) == 0) {
            check("island", x.node(a, 5), m.island(a));
        }
        for (int n = 0; n <= 16; n++) {
            int due = 0;
            for (int b = 0; b < m.nodes; b++) {
                due |= near[a][b] <= n ? 1 << b : 0;
            }
            check("within", x.within(a, n), due);
        }
    }

    private void level(int level) {
        int trees = 0;
        int spares = 0;
        int most = 0;
        for (Model.Cable c : m.cables) {
            trees += c.level == level && c.kind.equals("TREE") ? 1 : 0;
            spares += c.level == level && c.kind.equals("SPARE") ? 1 : 0;
        }
        for (List<Integer> t : m.tours.get(level)) {
            most = Math.max(most, Integer.bitCount(Model.bitsOf(t)));
        }
        check("level trees", x.level(level, 0), m.tours.get(level).size());
        check("level tree cables", x.level(level, 1), trees);
        check("level spares", x.level(level, 2), spares);
        check("level greatest", x.level(level, 3), most);
        for (int n = 0; n < m.nodes; n++) {
            check("deep", x.deep(level, n), m.deep(level, n));
            check("above", x.kin(level, n, 0), m.above(level, n));
            check("below", x.kin(level, n, 1), m.below(level, n));
            int other = dice.nextInt(m.nodes);
            check("meet", x.meet(level, n, other), m.meet(level, n, other));
        }
    }
}
