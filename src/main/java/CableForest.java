import java.util.Arrays;
import java.util.NoSuchElementException;

/** Networks that stay connected or not while cables are laid and lifted; README.md says how it is used. */
public final class CableForest {
    public static final int NONE = -1;

    private static final int MOST_NODES = 16;
    private static final int MOST_CABLES = 60;
    private static final int MOST_LEVELS = 5;
    private static final int MOST_ACTS = 14;
    private static final int MOST_PAST = 8;
    private static final int MOST_COST = 99;
    private static final int MOST_ODDS = 12;
    private static final int TAPE_BYTES = 400;
    private static final int FEED_BYTES = 20;
    private static final int LOG_ROWS = 40;
    private static final int LOG_WIDTH = 3;
    private static final int CUT_OF_ONE = 99;

    private static final int TREE = 0;
    private static final int SPARE = 1;
    private static final int LIFTED = 2;

    private static final int LAID_TREE = 0;
    private static final int LAID_SPARE = 1;
    private static final int LIFTED_SPARE = 2;
    private static final int LIFTED_TREE = 3;
    private static final int ROSE = 4;
    private static final int IN_PLACE = 5;

    private static final int ACT_NET = 0;
    private static final int ACT_LAY = 1;
    private static final int ACT_LIFT = 2;
    private static final int ACT_SWAP = 3;
    private static final int ACT_FAIL = 4;
    private static final int ACT_TIDY = 5;
    private static final int ACT_COST = 6;
    private static final int ACT_KINDS = 7;

    private static final int NO_SUCH_NODE = 1;
    private static final int ENDS_ALIKE = 2;
    private static final int TOO_MANY_CABLES = 3;
    private static final int NO_SUCH_CABLE = 4;
    private static final int NO_SWAP = 5;

    private final Net[] past = new Net[MOST_PAST];
    private final Net now = new Net();
    // Texts, heirs and tries are worked out here, so that what is wrong or only asked never touches `now`.
    private final Net aside = new Net();
    private final Net kept = new Net();
    private final Survey survey = new Survey();
    private final Tape tape = new Tape();
    private boolean anyKept = false;
    private int remembered = 0;
    private int why = 0;
    private int refused = 0;

    public CableForest() {
        for (int i = 0; i < MOST_PAST; i++) {
            past[i] = new Net();
        }
        now.start(4);
    }

    public int feed(int a, int b, int c, int d, int e) {
        if (tape.length + FEED_BYTES > TAPE_BYTES) {
            return NONE;
        }
        tape.addBytes(a);
        tape.addBytes(b);
        tape.addBytes(c);
        tape.addBytes(d);
        tape.addBytes(e);
        return tape.length;
    }

    public boolean end(int n) {
        if (n < 0 || n > tape.length) {
            return false;
        }
        tape.length = n;
        return true;
    }

    public int acts() throws IllegalArgumentException {
        int done = tellAside();
        if (done == NONE) {
            if (refused != 0) {
                why = refused;
            }
            throw new IllegalArgumentException("the text is wrong");
        }
        if (done > 0) {
            why = 0;
        }
        now.copyFrom(aside);
        remembered = 0;
        return done;
    }

    public int fault() {
        return tape.fault;
    }

    public int why() {
        return why;
    }

    public int net(int nodes) throws IllegalArgumentException {
        if (nodes < 2 || nodes > MOST_NODES) {
            throw new IllegalArgumentException("nodes are 2 to 16");
        }
        now.start(nodes);
        remembered = 0;
        why = 0;
        return now.height;
    }

    public int lay(int first, int second) throws IllegalStateException {
        return actByCall(ACT_LAY, first, second);
    }

    public int lift(int cable) throws IllegalStateException {
        return actByCall(ACT_LIFT, cable, 0);
    }

    public int cost(int cable, int cost) throws IllegalArgumentException, IllegalStateException {
        if (cost < 0 || cost > MOST_COST) {
            throw new IllegalArgumentException("a cost is 0 to 99");
        }
        return actByCall(ACT_COST, cable, cost);
    }

    public int tries() throws IllegalArgumentException {
        if (tellAside() == NONE) {
            throw new IllegalArgumentException("the text is wrong");
        }
        return aside.forests[0].trees();
    }

    public int swap(int tree, int spare) throws IllegalStateException {
        return actByCall(ACT_SWAP, tree, spare);
    }

    public int fail(int node) throws IllegalStateException {
        return actByCall(ACT_FAIL, node, 0);
    }

    public int tidy() {
        return actByCall(ACT_TIDY, 0, 0);
    }

    public int undo() throws IllegalStateException {
        if (remembered <= 0) {
            throw new IllegalStateException("no act is remembered");
        }
        remembered--;
        now.copyFrom(past[remembered]);
        return remembered;
    }

    public boolean connected(int node, int other) throws IndexOutOfBoundsException {
        needNode(node);
        needNode(other);
        return holds(now.forests[0].partOf(node), other);
    }

    public int node(int node, int what) throws IndexOutOfBoundsException, NoSuchElementException {
        needNode(node);
        switch (what) {
            case 0:
                return now.names[node];
            case 1:
                return now.forests[0].partOf(node);
            case 2:
                return now.cablesAt(node, TREE) + now.cablesAt(node, SPARE);
            case 3:
                return now.cablesAt(node, TREE);
            case 4:
                return survey.spanOf(now, node);
            case 5:
                return survey.islandOf(now, node);
            default:
                throw new NoSuchElementException("what is 0 to 5");
        }
    }

    public int cable(int cable, int what) throws IndexOutOfBoundsException, NoSuchElementException {
        needCable(cable);
        switch (what) {
            case 0:
                return now.firsts[cable];
            case 1:
                return now.seconds[cable];
            case 2:
                return now.kinds[cable];
            case 3:
                return now.levels[cable];
            case 4:
                return now.rises[cable];
            case 5:
                return now.costs[cable];
            case 6:
                return survey.lossOf(now, cable);
            default:
                throw new NoSuchElementException("what is 0 to 6");
        }
    }

    public int part(int level, int node) throws IndexOutOfBoundsException {
        needLevel(level);
        needNode(node);
        return now.forests[level].partOf(node);
    }

    public int level(int level, int what) throws IndexOutOfBoundsException, NoSuchElementException {
        needLevel(level);
        switch (what) {
            case 0:
                return now.forests[level].trees();
            case 1:
                return now.cablesOn(level, TREE);
            case 2:
                return now.cablesOn(level, SPARE);
            case 3:
                return now.forests[level].greatest();
            default:
                throw new NoSuchElementException("what is 0 to 3");
        }
    }

    public int tour(int level, int node, int k) throws IndexOutOfBoundsException {
        needLevel(level);
        needNode(node);
        return now.forests[level].itemOf(node, k);
    }

    public int deep(int level, int node) throws IndexOutOfBoundsException {
        needLevel(level);
        needNode(node);
        return now.forests[level].depthOf(node);
    }

    public int way(int node, int other, int k) throws IndexOutOfBoundsException {
        needNode(node);
        needNode(other);
        return k == NONE ? survey.wayLength(now, node, other) : survey.wayNode(now, node, other, k);
    }

    public int near(int node, int other) throws IndexOutOfBoundsException {
        needNode(node);
        needNode(other);
        return survey.stepsBetween(now, node, other);
    }

    public int heir(int cable) throws IndexOutOfBoundsException, IllegalStateException {
        needCable(cable);
        if (now.kinds[cable] != TREE) {
            throw new IllegalStateException("it is no tree cable");
        }
        aside.copyFrom(now);
        return aside.takeCable(cable);
    }

    public int would(int cable, int what) throws IndexOutOfBoundsException, NoSuchElementException, IllegalStateException {
        needCable(cable);
        if (what != 0 && what != 1) {
            throw new NoSuchElementException("what is 0 or 1");
        }
        if (now.kinds[cable] == LIFTED) {
            throw new IllegalStateException("it is lifted");
        }
        aside.copyFrom(now);
        aside.takeCable(cable);
        return what == 0 ? aside.looked - now.looked : aside.risen - now.risen;
    }

    public boolean bridge(int cable) throws IndexOutOfBoundsException {
        needCable(cable);
        return survey.lossOf(now, cable) > 0;
    }

    public int kin(int level, int node, int what) throws IndexOutOfBoundsException, NoSuchElementException {
        needLevel(level);
        needNode(node);
        switch (what) {
            case 0:
                return now.aboveOf(level, node);
            case 1:
                return now.forests[level].belowOf(node);
            default:
                throw new NoSuchElementException("what is 0 or 1");
        }
    }

    public int meet(int level, int node, int other) throws IndexOutOfBoundsException {
        needLevel(level);
        needNode(node);
        needNode(other);
        return now.meetingOf(level, node, other);
    }

    public int within(int node, int n) throws IndexOutOfBoundsException, IllegalArgumentException {
        needNode(node);
        if (n < 0 || n > MOST_NODES) {
            throw new IllegalArgumentException("n is 0 to 16");
        }
        return survey.nodesWithin(now, node, n);
    }

    public int odds(int node, int other) throws IndexOutOfBoundsException {
        needNode(node);
        needNode(other);
        return survey.setsThatTie(now, node, other);
    }

    public int fare(int node, int other) throws IndexOutOfBoundsException {
        needNode(node);
        needNode(other);
        return survey.leastFare(now, node, other);
    }

    public int named(int name) {
        for (int node = 0; node < now.nodes; node++) {
            if (now.names[node] == name) {
                return node;
            }
        }
        return NONE;
    }

    public int log(int k, int what) throws NoSuchElementException {
        if (what < 0 || what >= LOG_WIDTH) {
            throw new NoSuchElementException("what is 0 to 2");
        }
        if (k < 0 || k >= now.logged) {
            return NONE;
        }
        return now.rows[(now.eldest + k) % LOG_ROWS * LOG_WIDTH + what];
    }

    public int hinges() {
        return survey.hingesOf(now);
    }

    public int cut(int node, int other) throws IndexOutOfBoundsException {
        needNode(node);
        needNode(other);
        return node == other ? CUT_OF_ONE : survey.fewestBetween(now, node, other);
    }

    public void image() {
        kept.copyFrom(now);
        anyKept = true;
    }

    public boolean back() {
        if (!anyKept) {
            return false;
        }
        now.copyFrom(kept);
        remembered = 0;
        return true;
    }

    public int count(int what) {
        switch (what) {
            case 0:
                return now.nodes;
            case 1:
                return now.height;
            case 2:
                return now.laid;
            case 3:
                return now.cablesOf(TREE) + now.cablesOf(SPARE);
            case 4:
                return now.cablesOf(TREE);
            case 5:
                return now.cablesOf(SPARE);
            case 6:
                return now.forests[0].trees();
            case 7:
                return now.risen;
            case 8:
                return now.looked;
            case 9:
                return survey.bridgesOf(now);
            case 10:
                return survey.widthOf(now);
            case 11:
                // A cable lies in no circle just if its lifting parts its ends.
                return now.cablesOf(TREE) + now.cablesOf(SPARE) - survey.bridgesOf(now);
            case 12:
                return now.likePairs();
            case 13:
                return now.greatestLevel();
            case 14:
                return remembered;
            case 15:
                return survey.keyOf(now);
            case 16:
                return survey.cheapestOf(now);
            case 17:
                return now.logged;
            default:
                return NONE;
        }
    }

    private void needNode(int node) {
        if (!now.isNode(node)) {
            throw new IndexOutOfBoundsException("there is no such node");
        }
    }

    private void needCable(int cable) {
        if (cable < 0 || cable >= now.laid) {
            throw new IndexOutOfBoundsException("there is no such cable");
        }
    }

    private void needLevel(int level) {
        if (level < 0 || level > now.height) {
            throw new IndexOutOfBoundsException("there is no such level");
        }
    }

    private int actByCall(int act, int x, int y) {
        why = now.refusal(act, x, y);
        if (why != 0) {
            throw new IllegalStateException("refused");
        }
        remember();
        return now.perform(act, x, y);
    }

    private void remember() {
        if (remembered >= MOST_PAST) {
            Net eldest = past[0];
            for (int i = 1; i < MOST_PAST; i++) {
                past[i - 1] = past[i];
            }
            past[MOST_PAST - 1] = eldest;
            remembered = MOST_PAST - 1;
        }
        past[remembered].copyFrom(now);
        remembered++;
    }

    /** Uses the tape up and does its acts on `aside`: how many, or NONE of a wrong text. */
    private int tellAside() {
        aside.copyFrom(now);
        tape.rewind();
        refused = 0;
        int done = 0;
        boolean more = !tape.atEnd();
        for (int act = 0; act <= MOST_ACTS && more; act++) {
            int begin = tape.at;
            if (act == MOST_ACTS) {
                tape.fault = begin;
            } else if (tape.readAct()) {
                for (int i = 0; i < tape.times && refused == 0; i++) {
                    refused = aside.refusal(tape.act, tape.numberOf(i, 0), tape.numberOf(i, 1));
                    if (refused == 0) {
                        aside.perform(tape.act, tape.numberOf(i, 0), tape.numberOf(i, 1));
                    }
                }
                // The act is done, or refused, ahead of what stands behind it in the text.
                if (refused != 0) {
                    tape.fault = begin;
                }
                done++;
            }
            more = tape.fault == NONE && tape.readNext();
        }
        tape.length = 0;
        return tape.fault == NONE ? done : NONE;
    }

    private static boolean holds(int bits, int node) {
        return (bits >> node & 1) != 0;
    }

    /** The bytes that were fed, and the reading of acts from them. */
    private static final class Tape {
        // A number takes a byte and a sign or blank behind it, so a text has no more than these.
        private static final int MOST_NUMBERS = TAPE_BYTES / 2 + 1;

        private final int[] bytes = new int[TAPE_BYTES];
        private final int[] numbers = new int[MOST_NUMBERS];
        private int length = 0;
        private int at = 0;
        private int fault = NONE;
        private int act = NONE;
        private int told = 0;
        private int times = 0;

        void addBytes(int number) {
            for (int shift = 24; shift >= 0 && length < TAPE_BYTES; shift -= 8) {
                bytes[length] = number >> shift & 255;
                length++;
            }
        }

        void rewind() {
            at = 0;
            fault = NONE;
            skipBlanks();
        }

        boolean atEnd() {
            return at >= length;
        }

        /** What the act just read tells for the i-th time: its numbers, 0 where it has fewer. */
        int numberOf(int i, int operand) {
            int each = operands();
            int k = i * each + operand;
            return operand < each && k >= 0 && k < told ? numbers[k] : 0;
        }

        /** Reads one act with all that it tells; false, and the fault is there, if it is wrong. */
        boolean readAct() {
            told = 0;
            times = 0;
            act = readWord();
            if (act == NONE) {
                return false;
            }
            boolean repeats = act == ACT_LAY || act == ACT_LIFT;
            int each = operands();
            for (int round = 0; round < MOST_NUMBERS; round++) {
                for (int operand = 0; operand < each; operand++) {
                    if (!readNumber(operand)) {
                        return false;
                    }
                }
                times++;
                if (!repeats || !takeSign(',')) {
                    return true;
                }
            }
            return true;
        }

        /** Whether another act must come; what is neither its sign nor the end is the fault. */
        boolean readNext() {
            if (atEnd()) {
                return false;
            }
            if (!takeSign(';')) {
                fault = at;
                return false;
            }
            return true;
        }

        private void skipBlanks() {
            while (at < length && bytes[at] == ' ') {
                at++;
            }
        }

        private boolean takeSign(char sign) {
            if (at >= length || bytes[at] != sign) {
                return false;
            }
            at++;
            skipBlanks();
            return true;
        }

        private int readWord() {
            int begin = at;
            while (at < length && bytes[at] >= 'a' && bytes[at] <= 'z') {
                at++;
            }
            for (int kind = 0; kind < ACT_KINDS; kind++) {
                if (isWord(wordOf(kind), begin, at)) {
                    skipBlanks();
                    return kind;
                }
            }
            fault = begin;
            return NONE;
        }

        private String wordOf(int kind) {
            switch (kind) {
                case ACT_NET:
                    return "net";
                case ACT_LAY:
                    return "lay";
                case ACT_LIFT:
                    return "lift";
                case ACT_SWAP:
                    return "swap";
                case ACT_FAIL:
                    return "fail";
                case ACT_TIDY:
                    return "tidy";
                default:
                    return "cost";
            }
        }

        private boolean isWord(String word, int from, int to) {
            if (to - from != word.length()) {
                return false;
            }
            for (int i = from; i < to; i++) {
                if (bytes[i] != word.charAt(i - from)) {
                    return false;
                }
            }
            return true;
        }

        private boolean readNumber(int operand) {
            int begin = at;
            int value = 0;
            while (at < length && bytes[at] >= '0' && bytes[at] <= '9') {
                // Held low, since a run of digits may be as long as the tape.
                value = Math.min(value * 10 + bytes[at] - '0', 1000);
                at++;
            }
            int digits = at - begin;
            boolean right = digits >= 1 && digits <= 2 && value >= (act == ACT_NET ? 2 : 0) && value <= mostOf(operand);
            if (!right || told >= MOST_NUMBERS) {
                fault = begin;
                return false;
            }
            numbers[told] = value;
            told++;
            skipBlanks();
            return true;
        }

        private int operands() {
            switch (act) {
                case ACT_TIDY:
                    return 0;
                case ACT_NET:
                case ACT_LIFT:
                case ACT_FAIL:
                    return 1;
                default:
                    return 2;
            }
        }

        private int mostOf(int operand) {
            switch (act) {
                case ACT_NET:
                    return MOST_NODES;
                case ACT_LAY:
                case ACT_FAIL:
                    return MOST_NODES - 1;
                case ACT_COST:
                    return operand == 0 ? MOST_CABLES - 1 : MOST_COST;
                default:
                    return MOST_CABLES - 1;
            }
        }
    }

    /** The tours of one level in one row, each closed by a STOP; a cable's two brackets are the same item. */
    private static final class Forest {
        private static final int STOP = -1;
        private static final int BRACKET = 100;
        // Nodes, a STOP for each tree, two brackets for each cable: no more than 16 + 1 + 30.
        private static final int ROW = 48;

        private final int[] row = new int[ROW];
        private int used = 0;

        void plant(int nodes) {
            used = 0;
            for (int node = 0; node < nodes && used + 1 < ROW; node++) {
                row[used] = node;
                row[used + 1] = STOP;
                used += 2;
            }
        }

        void copyFrom(Forest other) {
            System.arraycopy(other.row, 0, row, 0, ROW);
            used = other.used;
        }

        int partOf(int node) {
            int place = placeOf(node, 0);
            return place == NONE ? 0 : nodesIn(beginOf(place), endOf(place));
        }

        int trees() {
            int found = 0;
            for (int i = 0; i < used; i++) {
                if (row[i] == STOP) {
                    found++;
                }
            }
            return found;
        }

        int greatest() {
            int most = 0;
            int size = 0;
            for (int i = 0; i < used; i++) {
                if (row[i] == STOP) {
                    size = 0;
                } else if (row[i] < BRACKET) {
                    size++;
                    most = Math.max(most, size);
                }
            }
            return most;
        }

        int itemOf(int node, int k) {
            int place = placeOf(node, 0);
            if (place == NONE) {
                return NONE;
            }
            int begin = beginOf(place);
            if (k < 0 || k >= endOf(place) - begin) {
                return NONE;
            }
            int item = row[begin + k];
            boolean closing = item >= BRACKET && placeOf(item, 0) < begin + k;
            return closing ? item + BRACKET : item;
        }

        int depthOf(int node) {
            int place = placeOf(node, 0);
            return place == NONE ? 0 : Long.bitCount(openAt(place));
        }

        /** The cable of the innermost brackets round a node, or NONE. */
        int innermostOf(int node) {
            int place = placeOf(node, 0);
            if (place == NONE) {
                return NONE;
            }
            long open = openAt(place);
            for (int i = place - 1; i >= 0 && row[i] != STOP; i--) {
                if (row[i] >= BRACKET && (open & 1L << row[i] - BRACKET) != 0L) {
                    return row[i] - BRACKET;
                }
            }
            return NONE;
        }

        // All that lies in the innermost brackets round a node hangs on that node.
        int belowOf(int node) {
            int cable = innermostOf(node);
            return cable == NONE ? partOf(node) : insideOf(cable);
        }

        /** The nodes between the two brackets of a cable. */
        int insideOf(int cable) {
            int opening = placeOf(BRACKET + cable, 0);
            if (opening == NONE) {
                return 0;
            }
            int closing = placeOf(BRACKET + cable, opening + 1);
            return closing == NONE ? 0 : nodesIn(opening + 1, closing);
        }

        void join(int cable, int first, int second, int[] room) {
            int one = placeOf(first, 0);
            int two = placeOf(second, 0);
            if (one == NONE || two == NONE) {
                return;
            }
            int oneBegin = beginOf(one);
            int oneEnd = endOf(one);
            int twoBegin = beginOf(two);
            int twoEnd = endOf(two);
            if (oneBegin == twoBegin) {
                return;
            }
            int to = 0;
            for (int i = 0; i < used && to < ROW; i++) {
                if ((i < oneBegin || i > oneEnd) && (i < twoBegin || i > twoEnd)) {
                    room[to] = row[i];
                    to++;
                }
            }
            to = copyTo(room, to, one, oneEnd);
            to = copyTo(room, to, oneBegin, one);
            to = putTo(room, to, BRACKET + cable);
            to = copyTo(room, to, two, twoEnd);
            to = copyTo(room, to, twoBegin, two);
            to = putTo(room, to, BRACKET + cable);
            takeFrom(room, putTo(room, to, STOP));
        }

        void split(int cable, int[] room) {
            int opening = placeOf(BRACKET + cable, 0);
            int closing = opening == NONE ? NONE : placeOf(BRACKET + cable, opening + 1);
            if (closing == NONE) {
                return;
            }
            int begin = beginOf(opening);
            int end = endOf(closing);
            int to = copyTo(room, 0, 0, begin);
            to = copyTo(room, to, end + 1, used);
            to = copyTo(room, to, opening + 1, closing);
            to = putTo(room, to, STOP);
            to = copyTo(room, to, begin, opening);
            to = copyTo(room, to, closing + 1, end);
            takeFrom(room, putTo(room, to, STOP));
        }

        private int placeOf(int item, int from) {
            for (int i = from; i < used; i++) {
                if (row[i] == item) {
                    return i;
                }
            }
            return NONE;
        }

        private int beginOf(int place) {
            int begin = place;
            while (begin > 0 && row[begin - 1] != STOP) {
                begin--;
            }
            return begin;
        }

        private int endOf(int place) {
            int end = place;
            while (end < used && row[end] != STOP) {
                end++;
            }
            return end;
        }

        private int nodesIn(int from, int to) {
            int bits = 0;
            for (int i = from; i < to && i < used; i++) {
                if (row[i] < BRACKET) {
                    bits |= 1 << row[i];
                }
            }
            return bits;
        }

        /** The cables, as bits, that have one bracket alone ahead of a place in its tour. */
        private long openAt(int place) {
            long open = 0L;
            for (int i = place - 1; i >= 0 && row[i] != STOP; i--) {
                if (row[i] >= BRACKET) {
                    open ^= 1L << row[i] - BRACKET;
                }
            }
            return open;
        }

        private int copyTo(int[] room, int to, int from, int end) {
            int next = to;
            for (int i = from; i < end && next < ROW; i++) {
                room[next] = row[i];
                next++;
            }
            return next;
        }

        private int putTo(int[] room, int to, int item) {
            if (to >= ROW) {
                return to;
            }
            room[to] = item;
            return to + 1;
        }

        private void takeFrom(int[] room, int many) {
            for (int i = 0; i < many && i < ROW; i++) {
                row[i] = room[i];
            }
            used = many;
        }
    }

    /** All that acts change and undo, an image or a wrong text brings back. */
    private static final class Net {
        private final int[] firsts = new int[MOST_CABLES];
        private final int[] seconds = new int[MOST_CABLES];
        private final int[] costs = new int[MOST_CABLES];
        private final int[] levels = new int[MOST_CABLES];
        private final int[] kinds = new int[MOST_CABLES];
        private final int[] rises = new int[MOST_CABLES];
        private final int[] names = new int[MOST_NODES];
        private final int[] rows = new int[LOG_ROWS * LOG_WIDTH];
        private final int[] room = new int[Forest.ROW];
        private final Forest[] forests = new Forest[MOST_LEVELS];
        private int nodes = 0;
        private int height = 0;
        private int laid = 0;
        private int risen = 0;
        private int looked = 0;
        private int logged = 0;
        private int eldest = 0;

        Net() {
            for (int i = 0; i < MOST_LEVELS; i++) {
                forests[i] = new Forest();
            }
        }

        void copyFrom(Net other) {
            System.arraycopy(other.firsts, 0, firsts, 0, MOST_CABLES);
            System.arraycopy(other.seconds, 0, seconds, 0, MOST_CABLES);
            System.arraycopy(other.costs, 0, costs, 0, MOST_CABLES);
            System.arraycopy(other.levels, 0, levels, 0, MOST_CABLES);
            System.arraycopy(other.kinds, 0, kinds, 0, MOST_CABLES);
            System.arraycopy(other.rises, 0, rises, 0, MOST_CABLES);
            System.arraycopy(other.names, 0, names, 0, MOST_NODES);
            System.arraycopy(other.rows, 0, rows, 0, LOG_ROWS * LOG_WIDTH);
            for (int i = 0; i < MOST_LEVELS; i++) {
                forests[i].copyFrom(other.forests[i]);
            }
            nodes = other.nodes;
            height = other.height;
            laid = other.laid;
            risen = other.risen;
            looked = other.looked;
            logged = other.logged;
            eldest = other.eldest;
        }

        int start(int many) {
            nodes = many;
            height = 0;
            for (int level = 1; level < MOST_LEVELS; level++) {
                if (1 << level <= many) {
                    height = level;
                }
            }
            laid = 0;
            risen = 0;
            looked = 0;
            logged = 0;
            eldest = 0;
            for (int node = 0; node < MOST_NODES; node++) {
                names[node] = node;
            }
            plantAll();
            return height;
        }

        boolean isNode(int node) {
            return node >= 0 && node < nodes;
        }

        boolean isThere(int cable) {
            return cable >= 0 && cable < laid && kinds[cable] != LIFTED;
        }

        boolean touches(int cable, int node) {
            return firsts[cable] == node || seconds[cable] == node;
        }

        /** The number by which an act would be refused, or 0. */
        int refusal(int act, int x, int y) {
            switch (act) {
                case ACT_LAY:
                    if (!isNode(x) || !isNode(y)) {
                        return NO_SUCH_NODE;
                    }
                    if (x == y) {
                        return ENDS_ALIKE;
                    }
                    return laid >= MOST_CABLES ? TOO_MANY_CABLES : 0;
                case ACT_LIFT:
                case ACT_COST:
                    return isThere(x) ? 0 : NO_SUCH_CABLE;
                case ACT_SWAP:
                    return canExchange(x, y) ? 0 : NO_SWAP;
                case ACT_FAIL:
                    return isNode(x) ? 0 : NO_SUCH_NODE;
                default:
                    return 0;
            }
        }

        /** Does an act that `refusal` lets pass: what its call answers. */
        int perform(int act, int x, int y) {
            switch (act) {
                case ACT_NET:
                    return start(x);
                case ACT_LAY:
                    return addCable(x, y);
                case ACT_LIFT:
                    return takeCable(x);
                case ACT_SWAP:
                    return exchange(x, y);
                case ACT_FAIL:
                    return failNode(x);
                case ACT_TIDY:
                    return layAnew();
                default:
                    return setCost(x, y);
            }
        }

        /** LIFT of a cable that is there: what came in place, or NONE. */
        int takeCable(int cable) {
            boolean tree = kinds[cable] == TREE;
            int level = levels[cable];
            kinds[cable] = LIFTED;
            note(cable, tree ? LIFTED_TREE : LIFTED_SPARE, level);
            if (!tree) {
                return NONE;
            }
            for (int i = level; i >= 0; i--) {
                forests[i].split(cable, room);
            }
            for (int i = level; i >= 0; i--) {
                int heir = searchOn(i, cable);
                if (heir != NONE) {
                    putInPlace(heir, i);
                    return heir;
                }
            }
            nameTheParted(firsts[cable], seconds[cable]);
            return NONE;
        }

        int aboveOf(int level, int node) {
            int cable = forests[level].innermostOf(node);
            if (cable == NONE) {
                return NONE;
            }
            return holds(forests[level].insideOf(cable), firsts[cable]) ? seconds[cable] : firsts[cable];
        }

        int meetingOf(int level, int node, int other) {
            int at = node;
            for (int step = 0; step < MOST_NODES && at != NONE; step++) {
                if (holds(forests[level].belowOf(at), other)) {
                    return at;
                }
                at = aboveOf(level, at);
            }
            return NONE;
        }

        int cablesOf(int kind) {
            int found = 0;
            for (int cable = 0; cable < laid; cable++) {
                if (kinds[cable] == kind) {
                    found++;
                }
            }
            return found;
        }

        int cablesOn(int level, int kind) {
            int found = 0;
            for (int cable = 0; cable < laid; cable++) {
                if (kinds[cable] == kind && levels[cable] == level) {
                    found++;
                }
            }
            return found;
        }

        int cablesAt(int node, int kind) {
            int found = 0;
            for (int cable = 0; cable < laid; cable++) {
                if (kinds[cable] == kind && touches(cable, node)) {
                    found++;
                }
            }
            return found;
        }

        int likePairs() {
            int pairs = 0;
            for (int cable = 0; cable < laid; cable++) {
                for (int other = 0; other < cable; other++) {
                    if (isThere(cable) && isThere(other) && touches(other, firsts[cable]) && touches(other, seconds[cable])) {
                        pairs++;
                    }
                }
            }
            return pairs;
        }

        int greatestLevel() {
            int most = NONE;
            for (int cable = 0; cable < laid; cable++) {
                if (kinds[cable] != LIFTED) {
                    most = Math.max(most, levels[cable]);
                }
            }
            return most;
        }

        private void plantAll() {
            for (int i = 0; i < MOST_LEVELS; i++) {
                forests[i].plant(nodes);
            }
        }

        private int addCable(int first, int second) {
            int cable = laid;
            laid++;
            firsts[cable] = first;
            seconds[cable] = second;
            costs[cable] = 1;
            levels[cable] = 0;
            rises[cable] = 0;
            int one = forests[0].partOf(first);
            if (holds(one, second)) {
                kinds[cable] = SPARE;
                note(cable, LAID_SPARE, 0);
                return cable;
            }
            kinds[cable] = TREE;
            nameTheJoined(one, names[first], forests[0].partOf(second), names[second]);
            forests[0].join(cable, first, second, room);
            note(cable, LAID_TREE, 0);
            return cable;
        }

        private int setCost(int cable, int cost) {
            int was = costs[cable];
            costs[cable] = cost;
            return was;
        }

        private boolean canExchange(int tree, int spare) {
            if (!isThere(tree) || !isThere(spare) || kinds[tree] != TREE || kinds[spare] != SPARE) {
                return false;
            }
            if (levels[tree] != 0 || levels[spare] != 0) {
                return false;
            }
            // The way leads through the tree cable just if its brackets keep the spare one's ends apart.
            int inside = forests[0].insideOf(tree);
            return holds(inside, firsts[spare]) != holds(inside, seconds[spare]);
        }

        private int exchange(int tree, int spare) {
            forests[0].split(tree, room);
            forests[0].join(spare, firsts[spare], seconds[spare], room);
            kinds[tree] = SPARE;
            kinds[spare] = TREE;
            return cablesOf(TREE);
        }

        private int failNode(int node) {
            int taken = 0;
            for (int cable = 0; cable < laid; cable++) {
                if (kinds[cable] != LIFTED && touches(cable, node)) {
                    takeCable(cable);
                    taken++;
                }
            }
            return taken;
        }

        private int layAnew() {
            plantAll();
            int changed = 0;
            for (int cable = 0; cable < laid; cable++) {
                if (kinds[cable] == LIFTED) {
                    continue;
                }
                int kind = holds(forests[0].partOf(firsts[cable]), seconds[cable]) ? SPARE : TREE;
                if (kind == TREE) {
                    forests[0].join(cable, firsts[cable], seconds[cable], room);
                }
                if (levels[cable] != 0 || kinds[cable] != kind) {
                    changed++;
                }
                levels[cable] = 0;
                kinds[cable] = kind;
            }
            return changed;
        }

        /** A search on one level: what is to come in place there, or NONE. */
        private int searchOn(int level, int lifted) {
            int one = forests[level].partOf(firsts[lifted]);
            int two = forests[level].partOf(seconds[lifted]);
            int small = Integer.bitCount(two) < Integer.bitCount(one) ? two : one;
            boolean mayRise = level < height;
            for (int cable = 0; cable < laid && mayRise; cable++) {
                if (kinds[cable] == TREE && levels[cable] == level && holds(small, firsts[cable])) {
                    raise(cable);
                    forests[level + 1].join(cable, firsts[cable], seconds[cable], room);
                }
            }
            for (int cable = 0; cable < laid; cable++) {
                if (kinds[cable] != SPARE || levels[cable] != level) {
                    continue;
                }
                boolean first = holds(small, firsts[cable]);
                boolean second = holds(small, seconds[cable]);
                if (!first && !second) {
                    continue;
                }
                looked++;
                if (first != second) {
                    return cable;
                }
                if (mayRise) {
                    raise(cable);
                }
            }
            return NONE;
        }

        private void raise(int cable) {
            levels[cable]++;
            rises[cable]++;
            risen++;
            note(cable, ROSE, levels[cable]);
        }

        private void putInPlace(int cable, int level) {
            kinds[cable] = TREE;
            for (int i = level; i >= 0; i--) {
                forests[i].join(cable, firsts[cable], seconds[cable], room);
            }
            note(cable, IN_PLACE, level);
        }

        private void nameTheJoined(int one, int oneName, int two, int twoName) {
            int more = Integer.bitCount(one) - Integer.bitCount(two);
            int name = more > 0 ? oneName : more < 0 ? twoName : Math.min(oneName, twoName);
            giveName(one | two, name);
        }

        private void nameTheParted(int first, int second) {
            int one = forests[0].partOf(first);
            int two = forests[0].partOf(second);
            int renamed = Integer.bitCount(one) >= Integer.bitCount(two) ? two : one;
            giveName(renamed, freeName(renamed));
        }

        private int freeName(int renamed) {
            int taken = 0;
            for (int node = 0; node < nodes; node++) {
                if (!holds(renamed, node)) {
                    taken |= 1 << names[node];
                }
            }
            return Integer.numberOfTrailingZeros(~taken);
        }

        private void giveName(int bits, int name) {
            for (int node = 0; node < nodes; node++) {
                if (holds(bits, node)) {
                    names[node] = name;
                }
            }
        }

        // The rows go round, so that a new one takes the eldest one's place.
        private void note(int cable, int what, int level) {
            int at = (eldest + logged) % LOG_ROWS * LOG_WIDTH;
            rows[at] = cable;
            rows[at + 1] = what;
            rows[at + 2] = level;
            if (logged < LOG_ROWS) {
                logged++;
            } else {
                eldest = (eldest + 1) % LOG_ROWS;
            }
        }
    }

    /** What is asked of all cables that are there, spare ones too; its rows are used again by each question. */
    private static final class Survey {
        private final int[] links = new int[MOST_NODES];
        private final int[] marks = new int[MOST_NODES];
        private final int[] queue = new int[MOST_NODES];
        private final int[] flow = new int[MOST_NODES * MOST_NODES];
        private final int[] ends = new int[MOST_ODDS];

        int spanOf(Net net, int node) {
            linkAll(net, NONE);
            return spanByLinks(node);
        }

        int widthOf(Net net) {
            linkAll(net, NONE);
            int most = 0;
            for (int node = 0; node < net.nodes; node++) {
                most = Math.max(most, spanByLinks(node));
            }
            return most;
        }

        int stepsBetween(Net net, int node, int other) {
            linkAll(net, NONE);
            for (int steps = 0; steps < MOST_NODES; steps++) {
                if (holds(spread(1 << node, steps, 0), other)) {
                    return steps;
                }
            }
            return NONE;
        }

        int nodesWithin(Net net, int node, int steps) {
            linkAll(net, NONE);
            return spread(1 << node, steps, 0);
        }

        int islandOf(Net net, int node) {
            int island = reach(net, node, NONE);
            for (int cable = 0; cable < net.laid; cable++) {
                if (net.kinds[cable] == TREE) {
                    island &= reach(net, node, cable);
                }
            }
            return island;
        }

        int lossOf(Net net, int cable) {
            if (net.kinds[cable] != TREE) {
                return 0;
            }
            int one = reach(net, net.firsts[cable], cable);
            if (holds(one, net.seconds[cable])) {
                return 0;
            }
            return Integer.bitCount(one) * Integer.bitCount(reach(net, net.seconds[cable], cable));
        }

        int bridgesOf(Net net) {
            int found = 0;
            for (int cable = 0; cable < net.laid; cable++) {
                if (lossOf(net, cable) > 0) {
                    found++;
                }
            }
            return found;
        }

        int keyOf(Net net) {
            int key = NONE;
            int most = 0;
            for (int cable = 0; cable < net.laid; cable++) {
                int loss = lossOf(net, cable);
                if (loss > most) {
                    most = loss;
                    key = cable;
                }
            }
            return key;
        }

        int hingesOf(Net net) {
            linkAll(net, NONE);
            int hinges = 0;
            for (int node = 0; node < net.nodes; node++) {
                int others = spread(1 << node, MOST_NODES, 0) & ~(1 << node);
                if (spread(others & -others, MOST_NODES, 1 << node) != others) {
                    hinges |= 1 << node;
                }
            }
            return hinges;
        }

        int wayLength(Net net, int node, int other) {
            markWay(net, other);
            int at = node;
            for (int steps = 0; steps < MOST_NODES; steps++) {
                if (at == other) {
                    return steps;
                }
                at = at == NONE ? NONE : marks[at];
            }
            return NONE;
        }

        int wayNode(Net net, int node, int other, int k) {
            int length = wayLength(net, node, other);
            if (k < 0 || k > length) {
                return NONE;
            }
            int at = node;
            for (int steps = 0; steps < k && at != NONE; steps++) {
                at = marks[at];
            }
            return at;
        }

        int leastFare(Net net, int node, int other) {
            Arrays.fill(marks, NONE);
            marks[node] = 0;
            for (int round = 0; round < MOST_NODES; round++) {
                for (int cable = 0; cable < net.laid; cable++) {
                    if (net.kinds[cable] != LIFTED) {
                        cheapen(net.firsts[cable], net.seconds[cable], net.costs[cable]);
                        cheapen(net.seconds[cable], net.firsts[cable], net.costs[cable]);
                    }
                }
            }
            return marks[other];
        }

        int cheapestOf(Net net) {
            int seen = 1;
            int sum = 0;
            for (int round = 1; round < net.nodes; round++) {
                int cable = cheapestLeaving(net, seen);
                if (cable == NONE) {
                    // Nothing leads on: the next part begins with the least node not seen.
                    seen |= ~seen & -~seen;
                } else {
                    seen |= 1 << net.firsts[cable] | 1 << net.seconds[cable];
                    sum += net.costs[cable];
                }
            }
            return sum;
        }

        int fewestBetween(Net net, int node, int other) {
            Arrays.fill(flow, 0);
            for (int cable = 0; cable < net.laid; cable++) {
                if (net.kinds[cable] != LIFTED) {
                    flow[net.firsts[cable] * MOST_NODES + net.seconds[cable]]++;
                    flow[net.seconds[cable] * MOST_NODES + net.firsts[cable]]++;
                }
            }
            for (int ways = 0; ways < MOST_CABLES; ways++) {
                if (!findRoom(node, other)) {
                    return ways;
                }
                sendOne(node, other);
            }
            return MOST_CABLES;
        }

        int setsThatTie(Net net, int node, int other) {
            int many = 0;
            for (int cable = 0; cable < net.laid; cable++) {
                if (net.kinds[cable] != LIFTED) {
                    if (many >= MOST_ODDS) {
                        return NONE;
                    }
                    ends[many] = 1 << net.firsts[cable] | 1 << net.seconds[cable];
                    many++;
                }
            }
            return tying(ends, 1 << node, other, (1 << many) - 1, 0);
        }

        /**
         * Of all choices among the cables still open, how many bring what is seen to the goal;
         * each call settles one open cable, so they go no deeper than there are cables.
         */
        private static int tying(int[] ends, int seen, int goal, int open, int depth) {
            if (holds(seen, goal)) {
                return 1 << Integer.bitCount(open);
            }
            if (depth >= MOST_ODDS) {
                return 0;
            }
            for (int i = 0; i < MOST_ODDS; i++) {
                boolean leaves = (open >> i & 1) != 0 && (ends[i] & seen) != 0 && (ends[i] & ~seen) != 0;
                if (leaves) {
                    int rest = open & ~(1 << i);
                    return tying(ends, seen | ends[i], goal, rest, depth + 1) + tying(ends, seen, goal, rest, depth + 1);
                }
            }
            return 0;
        }

        private void linkAll(Net net, int without) {
            Arrays.fill(links, 0);
            for (int cable = 0; cable < net.laid; cable++) {
                if (net.kinds[cable] != LIFTED && cable != without) {
                    links[net.firsts[cable]] |= 1 << net.seconds[cable];
                    links[net.seconds[cable]] |= 1 << net.firsts[cable];
                }
            }
        }

        private int spread(int from, int steps, int barred) {
            int seen = from;
            for (int step = 0; step < steps; step++) {
                int next = seen;
                for (int node = 0; node < MOST_NODES; node++) {
                    if (holds(seen, node)) {
                        next |= links[node];
                    }
                }
                next &= ~barred;
                if (next == seen) {
                    return seen;
                }
                seen = next;
            }
            return seen;
        }

        private int reach(Net net, int node, int without) {
            linkAll(net, without);
            return spread(1 << node, MOST_NODES, 0);
        }

        private int spanByLinks(int node) {
            int seen = 1 << node;
            for (int steps = 0; steps < MOST_NODES; steps++) {
                int next = spread(seen, 1, 0);
                if (next == seen) {
                    return steps;
                }
                seen = next;
            }
            return MOST_NODES;
        }

        /** Marks each node with the next one on its way to the goal, the goal with itself. */
        private void markWay(Net net, int goal) {
            Arrays.fill(marks, NONE);
            marks[goal] = goal;
            for (int round = 0; round < MOST_NODES; round++) {
                for (int cable = 0; cable < net.laid; cable++) {
                    int first = net.firsts[cable];
                    int second = net.seconds[cable];
                    if (net.kinds[cable] != TREE) {
                        continue;
                    }
                    if (marks[first] == NONE && marks[second] != NONE) {
                        marks[first] = second;
                    } else if (marks[second] == NONE && marks[first] != NONE) {
                        marks[second] = first;
                    }
                }
            }
        }

        private void cheapen(int from, int to, int cost) {
            if (marks[from] != NONE && (marks[to] == NONE || marks[from] + cost < marks[to])) {
                marks[to] = marks[from] + cost;
            }
        }

        private int cheapestLeaving(Net net, int seen) {
            int best = NONE;
            for (int cable = 0; cable < net.laid; cable++) {
                boolean leaves = net.kinds[cable] != LIFTED
                        && holds(seen, net.firsts[cable]) != holds(seen, net.seconds[cable]);
                if (leaves && (best == NONE || net.costs[cable] < net.costs[best])) {
                    best = cable;
                }
            }
            return best;
        }

        /** Marks the nodes that the flow can still come to, each with the one ahead of it. */
        private boolean findRoom(int node, int other) {
            Arrays.fill(marks, NONE);
            marks[node] = node;
            queue[0] = node;
            int waiting = 1;
            for (int i = 0; i < waiting && marks[other] == NONE; i++) {
                int from = queue[i];
                for (int to = 0; to < MOST_NODES && waiting < MOST_NODES; to++) {
                    if (marks[to] == NONE && flow[from * MOST_NODES + to] > 0) {
                        marks[to] = from;
                        queue[waiting] = to;
                        waiting++;
                    }
                }
            }
            return marks[other] != NONE;
        }

        private void sendOne(int node, int other) {
            int to = other;
            for (int step = 0; step < MOST_NODES && to != node; step++) {
                int from = marks[to];
                if (from == NONE) {
                    return;
                }
                flow[from * MOST_NODES + to]--;
                flow[to * MOST_NODES + from]++;
                to = from;
            }
        }
    }
}
