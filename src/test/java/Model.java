import java.util.ArrayList;
import java.util.Arrays;
import java.util.Collections;
import java.util.List;
import java.util.TreeSet;

/**
 * The document's words a second time, with lists and sets and by trying all that there is, so that
 * CableForest can be held against it. Names, refusals and order follow the document line by line.
 */
final class Model {
    static final int NONE = -1;

    static final class Cable {
        int first;
        int second;
        int cost = 1;
        int level = 0;
        int rose = 0;
        String kind = "TREE";

        Cable copy() {
            Cable c = new Cable();
            c.first = first;
            c.second = second;
            c.cost = cost;
            c.level = level;
            c.rose = rose;
            c.kind = kind;
            return c;
        }

        boolean there() {
            return !kind.equals("LIFTED");
        }

        int other(int node) {
            return node == first ? second : first;
        }

        boolean has(int node) {
            return first == node || second == node;
        }
    }

    int nodes = 4;
    List<Cable> cables = new ArrayList<>();
    // tours.get(level): the tours there; a node as it is, a bracket as 1000 and its cable.
    List<List<List<Integer>>> tours = new ArrayList<>();
    int[] names = new int[16];
    List<int[]> log = new ArrayList<>();
    int risen = 0;
    int looked = 0;

    Model(int nodes) {
        this.nodes = nodes;
        for (int i = 0; i < 16; i++) {
            names[i] = i;
        }
        singles();
    }

    Model copy() {
        Model m = new Model(nodes);
        for (Cable c : cables) {
            m.cables.add(c.copy());
        }
        m.tours.clear();
        for (List<List<Integer>> level : tours) {
            List<List<Integer>> copied = new ArrayList<>();
            for (List<Integer> t : level) {
                copied.add(new ArrayList<>(t));
            }
            m.tours.add(copied);
        }
        m.names = names.clone();
        m.log = new ArrayList<>(log);
        m.risen = risen;
        m.looked = looked;
        return m;
    }

    int height() {
        int l = 0;
        while (Math.pow(2, l + 1) <= nodes) {
            l++;
        }
        return l;
    }

    private void singles() {
        tours.clear();
        for (int level = 0; level <= height(); level++) {
            List<List<Integer>> trees = new ArrayList<>();
            for (int n = 0; n < nodes; n++) {
                trees.add(new ArrayList<>(List.of(n)));
            }
            tours.add(trees);
        }
    }

    List<Integer> tourOf(int level, int node) {
        for (List<Integer> t : tours.get(level)) {
            if (t.contains(node)) {
                return t;
            }
        }
        throw new AssertionError("no tour");
    }

    static int bitsOf(List<Integer> tour) {
        int bits = 0;
        for (int item : tour) {
            if (item < 1000) {
                bits |= 1 << item;
            }
        }
        return bits;
    }

    private static int size(List<Integer> tour) {
        return Integer.bitCount(bitsOf(tour));
    }

    private static void turn(List<Integer> tour, int node) {
        Collections.rotate(tour, -tour.indexOf(node));
    }

    private void join(int level, int number) {
        Cable c = cables.get(number);
        List<Integer> one = tourOf(level, c.first);
        List<Integer> two = tourOf(level, c.second);
        if (one == two) {
            throw new AssertionError("joined already");
        }
        turn(one, c.first);
        turn(two, c.second);
        one.add(1000 + number);
        one.addAll(two);
        one.add(1000 + number);
        tours.get(level).remove(two);
    }

    private void split(int level, int number) {
        List<Integer> tour = tourOf(level, cables.get(number).first);
        int a = tour.indexOf(1000 + number);
        int b = tour.lastIndexOf(1000 + number);
        List<Integer> inner = new ArrayList<>(tour.subList(a + 1, b));
        List<Integer> outer = new ArrayList<>(tour.subList(0, a));
        outer.addAll(tour.subList(b + 1, tour.size()));
        tours.get(level).remove(tour);
        tours.get(level).add(inner);
        tours.get(level).add(outer);
    }

    private void note(int cable, int what, int level) {
        log.add(new int[] {cable, what, level});
        if (log.size() > 40) {
            log.remove(0);
        }
    }

    boolean isNode(int n) {
        return n >= 0 && n < nodes;
    }

    boolean isThere(int c) {
        return c >= 0 && c < cables.size() && cables.get(c).there();
    }

    /** An act: {0, what its call answers} or {number of refusal, 0}. */
    int[] act(String word, int x, int y) {
        switch (word) {
            case "lay":
                if (!isNode(x) || !isNode(y)) {
                    return new int[] {1, 0};
                }
                if (x == y) {
                    return new int[] {2, 0};
                }
                if (cables.size() == 60) {
                    return new int[] {3, 0};
                }
                return new int[] {0, lay(x, y)};
            case "lift":
                return isThere(x) ? new int[] {0, lift(x)} : new int[] {4, 0};
            case "cost":
                if (!isThere(x)) {
                    return new int[] {4, 0};
                }
                int was = cables.get(x).cost;
                cables.get(x).cost = y;
                return new int[] {0, was};
            case "swap":
                return swap(x, y);
            case "fail":
                return isNode(x) ? new int[] {0, fail(x)} : new int[] {1, 0};
            case "tidy":
                return new int[] {0, tidy()};
            default:
                throw new AssertionError(word);
        }
    }

    private int lay(int first, int second) {
        Cable c = new Cable();
        c.first = first;
        c.second = second;
        int number = cables.size();
        cables.add(c);
        List<Integer> one = tourOf(0, first);
        List<Integer> two = tourOf(0, second);
        if (one == two) {
            c.kind = "SPARE";
            note(number, 1, 0);
            return number;
        }
        int name = names[first];
        if (size(two) > size(one) || size(two) == size(one) && names[second] < name) {
            name = names[second];
        }
        join(0, number);
        rename(tourOf(0, first), name);
        note(number, 0, 0);
        return number;
    }

    private void rename(List<Integer> tour, int name) {
        for (int item : tour) {
            if (item < 1000) {
                names[item] = name;
            }
        }
    }

    int lift(int number) {
        Cable c = cables.get(number);
        boolean tree = c.kind.equals("TREE");
        c.kind = "LIFTED";
        note(number, tree ? 3 : 2, c.level);
        if (!tree) {
            return NONE;
        }
        for (int i = c.level; i >= 0; i--) {
            split(i, number);
        }
        for (int i = c.level; i >= 0; i--) {
            int found = search(i, c);
            if (found != NONE) {
                return found;
            }
        }
        List<Integer> one = tourOf(0, c.first);
        List<Integer> two = tourOf(0, c.second);
        List<Integer> other = size(one) >= size(two) ? two : one;
        TreeSet<Integer> taken = new TreeSet<>();
        for (List<Integer> t : tours.get(0)) {
            if (t != other) {
                taken.add(names[Integer.numberOfTrailingZeros(bitsOf(t))]);
            }
        }
        int free = 0;
        while (taken.contains(free)) {
            free++;
        }
        rename(other, free);
        return NONE;
    }

    private int search(int i, Cable lifted) {
        List<Integer> one = tourOf(i, lifted.first);
        List<Integer> two = tourOf(i, lifted.second);
        int small = bitsOf(size(two) < size(one) ? two : one);
        for (int k = 0; k < cables.size(); k++) {
            Cable c = cables.get(k);
            if (c.kind.equals("TREE") && c.level == i && (small >> c.first & 1) == 1 && i < height()) {
                rise(k);
                join(i + 1, k);
            }
        }
        for (int k = 0; k < cables.size(); k++) {
            Cable c = cables.get(k);
            int inside = (small >> c.first & 1) + (small >> c.second & 1);
            if (!c.kind.equals("SPARE") || c.level != i || inside == 0) {
                continue;
            }
            looked++;
            if (inside == 1) {
                c.kind = "TREE";
                for (int j = i; j >= 0; j--) {
                    join(j, k);
                }
                note(k, 5, i);
                return k;
            }
            if (i < height()) {
                rise(k);
            }
        }
        return NONE;
    }

    private void rise(int k) {
        Cable c = cables.get(k);
        c.level++;
        c.rose++;
        risen++;
        note(k, 4, c.level);
    }

    private int[] swap(int x, int y) {
        if (!isThere(x) || !isThere(y) || !cables.get(x).kind.equals("TREE") || !cables.get(y).kind.equals("SPARE")
                || cables.get(x).level != 0 || cables.get(y).level != 0) {
            return new int[] {5, 0};
        }
        List<Integer> way = way(cables.get(y).first, cables.get(y).second);
        boolean on = false;
        for (int k = 0; k + 1 < way.size(); k++) {
            on |= cables.get(x).has(way.get(k)) && cables.get(x).has(way.get(k + 1));
        }
        if (!on) {
            return new int[] {5, 0};
        }
        split(0, x);
        join(0, y);
        cables.get(x).kind = "SPARE";
        cables.get(y).kind = "TREE";
        int trees = 0;
        for (Cable c : cables) {
            trees += c.kind.equals("TREE") ? 1 : 0;
        }
        return new int[] {0, trees};
    }

    private int fail(int node) {
        int many = 0;
        for (int k = 0; k < cables.size(); k++) {
            if (cables.get(k).there() && cables.get(k).has(node)) {
                lift(k);
                many++;
            }
        }
        return many;
    }

    private int tidy() {
        singles();
        int many = 0;
        for (int k = 0; k < cables.size(); k++) {
            Cable c = cables.get(k);
            if (!c.there()) {
                continue;
            }
            String was = c.kind + c.level;
            c.level = 0;
            c.kind = tourOf(0, c.first) == tourOf(0, c.second) ? "SPARE" : "TREE";
            if (c.kind.equals("TREE")) {
                join(0, k);
            }
            many += was.equals(c.kind + c.level) ? 0 : 1;
        }
        return many;
    }

    // ---- what is asked

    List<Integer> way(int node, int other) {
        return walk(node, other, new ArrayList<>(List.of(node)));
    }

    private List<Integer> walk(int node, int other, List<Integer> gone) {
        if (node == other) {
            return gone;
        }
        for (Cable c : cables) {
            if (c.kind.equals("TREE") && c.has(node) && !gone.contains(c.other(node))) {
                List<Integer> on = new ArrayList<>(gone);
                on.add(c.other(node));
                List<Integer> found = walk(c.other(node), other, on);
                if (!found.isEmpty()) {
                    return found;
                }
            }
        }
        return new ArrayList<>();
    }

    /** For each two nodes the fewest cables between them, 1000 if none; without a cable, or a node (NONE: all). */
    int[][] nears(int withoutCable, int withoutNode) {
        return floyd(withoutCable, withoutNode, false);
    }

    int[][] floyd(int withoutCable, int withoutNode, boolean costs) {
        int[][] d = new int[nodes][nodes];
        for (int[] row : d) {
            Arrays.fill(row, 100000);
        }
        for (int n = 0; n < nodes; n++) {
            d[n][n] = 0;
        }
        for (int k = 0; k < cables.size(); k++) {
            Cable c = cables.get(k);
            if (c.there() && k != withoutCable && !c.has(withoutNode)) {
                int w = Math.min(d[c.first][c.second], costs ? c.cost : 1);
                d[c.first][c.second] = w;
                d[c.second][c.first] = w;
            }
        }
        for (int k = 0; k < nodes; k++) {
            for (int i = 0; i < nodes; i++) {
                for (int j = 0; j < nodes; j++) {
                    d[i][j] = Math.min(d[i][j], d[i][k] + d[k][j]);
                }
            }
        }
        return d;
    }

    int loss(int cable) {
        int[][] with = nears(NONE, NONE);
        int[][] without = nears(cable, NONE);
        int pairs = 0;
        for (int i = 0; i < nodes; i++) {
            for (int j = 0; j < i; j++) {
                pairs += with[i][j] < 1000 && without[i][j] >= 1000 ? 1 : 0;
            }
        }
        return pairs;
    }

    int island(int node) {
        int[][] with = nears(NONE, NONE);
        int bits = 0;
        for (int i = 0; i < nodes; i++) {
            boolean always = with[node][i] < 1000;
            for (int k = 0; k < cables.size(); k++) {
                always &= nears(k, NONE)[node][i] < 1000;
            }
            bits |= always ? 1 << i : 0;
        }
        return bits;
    }

    int hinges() {
        int[][] with = nears(NONE, NONE);
        int bits = 0;
        for (int n = 0; n < nodes; n++) {
            int[][] without = nears(NONE, n);
            for (int i = 0; i < nodes; i++) {
                for (int j = 0; j < i; j++) {
                    if (i != n && j != n && with[i][j] < 1000 && without[i][j] >= 1000) {
                        bits |= 1 << n;
                    }
                }
            }
        }
        return bits;
    }

    /** By all ways to put the nodes on two sides; for few nodes alone. */
    int cut(int node, int other) {
        if (node == other) {
            return 99;
        }
        int least = 1000;
        for (int side = 0; side < 1 << nodes; side++) {
            if ((side >> node & 1) == 1 && (side >> other & 1) == 0) {
                int across = 0;
                for (Cable c : cables) {
                    across += c.there() && (side >> c.first & 1) != (side >> c.second & 1) ? 1 : 0;
                }
                least = Math.min(least, across);
            }
        }
        return least;
    }

    List<Cable> thereOnes() {
        List<Cable> found = new ArrayList<>();
        for (Cable c : cables) {
            if (c.there()) {
                found.add(c);
            }
        }
        return found;
    }

    int odds(int node, int other) {
        List<Cable> all = thereOnes();
        if (all.size() > 12) {
            return NONE;
        }
        int many = 0;
        for (int set = 0; set < 1 << all.size(); set++) {
            int seen = 1 << node;
            for (int round = 0; round < 16; round++) {
                for (int k = 0; k < all.size(); k++) {
                    int both = 1 << all.get(k).first | 1 << all.get(k).second;
                    if ((set >> k & 1) == 1 && (seen & both) != 0) {
                        seen |= both;
                    }
                }
            }
            many += seen >> other & 1;
        }
        return many;
    }

    int cheapest() {
        List<Cable> all = thereOnes();
        all.sort((a, b) -> a.cost - b.cost);
        int[] root = new int[nodes];
        for (int n = 0; n < nodes; n++) {
            root[n] = n;
        }
        int sum = 0;
        for (Cable c : all) {
            int from = root[c.first];
            int to = root[c.second];
            if (from != to) {
                sum += c.cost;
                for (int n = 0; n < nodes; n++) {
                    root[n] = root[n] == from ? to : root[n];
                }
            }
        }
        return sum;
    }

    /** Whether some walk that uses no cable twice leads from one end of a cable, by others, to its other end. */
    boolean inCircle(int cable) {
        return cables.get(cable).there()
                && nears(cable, NONE)[cables.get(cable).first][cables.get(cable).second] < 1000;
    }

    int above(int level, int node) {
        List<Integer> tour = tourOf(level, node);
        int at = tour.indexOf(node);
        int best = NONE;
        int begin = -1;
        for (int k = 0; k < cables.size(); k++) {
            int a = tour.indexOf(1000 + k);
            int b = tour.lastIndexOf(1000 + k);
            if (a >= 0 && a < at && at < b && a > begin) {
                begin = a;
                int place = tour.indexOf(cables.get(k).first);
                best = a < place && place < b ? cables.get(k).second : cables.get(k).first;
            }
        }
        return best;
    }

    int below(int level, int node) {
        int bits = 0;
        for (int n = 0; n < nodes; n++) {
            for (int up = n; up != NONE; up = above(level, up)) {
                if (up == node) {
                    bits |= 1 << n;
                }
            }
        }
        return bits;
    }

    int deep(int level, int node) {
        List<Integer> tour = tourOf(level, node);
        TreeSet<Integer> open = new TreeSet<>();
        for (int item : tour) {
            if (item == node) {
                return open.size();
            }
            if (item >= 1000 && !open.add(item)) {
                open.remove(item);
            }
        }
        throw new AssertionError();
    }

    int meet(int level, int node, int other) {
        for (int up = node; up != NONE; up = above(level, up)) {
            if ((below(level, up) >> other & 1) == 1) {
                return up;
            }
        }
        return NONE;
    }
}
