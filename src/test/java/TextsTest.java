import java.util.ArrayList;
import java.util.List;
import java.util.Random;
import java.util.regex.Matcher;
import java.util.regex.Pattern;

/**
 * Texts by chance (always the same ones), most of them damaged by a byte or more, told to an object and to a second
 * reader that cuts a text into its things first; what the acts do is asked of Model.
 */
public final class TextsTest {
    private static final Pattern THING = Pattern.compile("[a-z]+|[0-9]+|[^ ]", Pattern.DOTALL);
    private static final String DAMAGE = " ;,;, 0123456789abnetlifwpscoyz`{/:!-A\t\0\u007f\u0080\u00ff";
    private static int wrong = 0;

    private final Random dice;
    private final StringBuilder told = new StringBuilder();
    private CableForest x = new CableForest();
    private Model m = new Model(4);
    private int why = 0;
    private int remembered = 0;

    // What the second reader found in the latest text.
    private Model aside = m;
    private int fault = CableForest.NONE;
    private int refused = 0;
    private int acts = 0;

    private TextsTest(long seed) {
        dice = new Random(seed);
    }

    public static void main(String[] args) {
        int runs = args.length > 0 ? Integer.parseInt(args[0]) : 1500;
        for (int seed = 0; seed < runs && wrong < 5; seed++) {
            new TextsTest(seed).run(seed);
        }
        if (wrong > 0) {
            System.exit(1);
        }
        System.out.println("both readers find the same");
    }

    private void run(int seed) {
        told.append("seed ").append(seed);
        for (int i = 0; i < 12 && wrong < 5; i++) {
            if (dice.nextInt(3) == 0) {
                layByCall();
            }
            String text = text();
            told.append(" <").append(text).append('>');
            tell(text, dice.nextInt(4) == 0);
        }
    }

    private void check(String what, long got, long due) {
        if (got != due && wrong < 5) {
            wrong++;
            System.out.println(told + " then " + what + " answered " + got + ", due is " + due);
        }
    }

    // So that there is something to forget, and a WHY of a call to be left or not.
    private void layByCall() {
        int a = dice.nextInt(m.nodes);
        int b = dice.nextInt(m.nodes);
        told.append(" lay(").append(a).append(',').append(b).append(')');
        why = m.act("lay", a, b)[0];
        remembered = why == 0 ? Math.min(8, remembered + 1) : remembered;
        try {
            x.lay(a, b);
            check("lay throws", 0, why == 0 ? 0 : 1);
        } catch (IllegalStateException e) {
            check("lay throws", 1, why == 0 ? 0 : 1);
        }
    }

    private void tell(String text, boolean tries) {
        read(text);
        boolean right = fault == CableForest.NONE;
        Tapes.put(x, text);
        int got;
        try {
            got = tries ? x.tries() : x.acts();
        } catch (IllegalArgumentException e) {
            got = -7;
        }
        check(tries ? "tries" : "acts", got, !right ? -7 : tries ? aside.tours.get(0).size() : acts);
        if (!tries && right) {
            m = aside;
            remembered = 0;
            why = acts > 0 ? 0 : why;
        } else if (!tries && refused != 0) {
            why = refused;
        }
        check("fault", x.fault(), fault);
        check("why", x.why(), why);
        check("remembered", x.count(14), remembered);
        check("tape", x.end(1) ? 1 : 0, 0);
        checkState();
    }

    private void checkState() {
        check("nodes", x.count(0), m.nodes);
        check("laid", x.count(2), m.cables.size());
        check("rows", x.count(17), m.log.size());
        check("risen", x.count(7), m.risen);
        check("looked", x.count(8), m.looked);
        if (x.count(0) != m.nodes || x.count(2) != m.cables.size()) {
            return;
        }
        for (int k = 0; k < m.cables.size(); k++) {
            Model.Cable c = m.cables.get(k);
            check("first end of " + k, x.cable(k, 0), c.first);
            check("second end of " + k, x.cable(k, 1), c.second);
            check("kind of " + k, x.cable(k, 2), List.of("TREE", "SPARE", "LIFTED").indexOf(c.kind));
            check("level of " + k, x.cable(k, 3), c.level);
            check("cost of " + k, x.cable(k, 5), c.cost);
        }
        for (int n = 0; n < m.nodes; n++) {
            check("name of " + n, x.node(n, 0), m.names[n]);
        }
    }

    // ---- the second reader

    private void read(String text) {
        List<String> things = new ArrayList<>();
        List<Integer> begins = new ArrayList<>();
        Matcher next = THING.matcher(text);
        while (next.find()) {
            things.add(next.group());
            begins.add(next.start());
        }
        // The end is a thing as well, one that stands at the text's length.
        things.add("");
        begins.add(text.length());
        aside = m.copy();
        refused = 0;
        acts = 0;
        int bad = things.size() == 1 ? -1 : firstBad(things);
        fault = bad < 0 ? CableForest.NONE : begins.get(bad);
    }

    /** Which thing is the first that cannot stand where it does; -1 without one. */
    private int firstBad(List<String> things) {
        int at = 0;
        while (true) {
            int word = at;
            int each = eachOf(things.get(word));
            if (acts == 14 || each < 0) {
                return word;
            }
            List<Integer> numbers = new ArrayList<>();
            boolean more = true;
            at++;
            while (more) {
                for (int k = 0; k < each; k++, at++) {
                    if (!stands(things.get(word), k, things.get(at))) {
                        return at;
                    }
                    numbers.add(Integer.parseInt(things.get(at)));
                }
                more = things.get(word).matches("lay|lift") && things.get(at).equals(",");
                at += more ? 1 : 0;
            }
            perform(things.get(word), each, numbers);
            if (refused != 0) {
                return word;
            }
            acts++;
            if (!things.get(at).equals(";")) {
                return things.get(at).isEmpty() ? -1 : at;
            }
            at++;
        }
    }

    private static int eachOf(String word) {
        return switch (word) {
            case "lay", "swap", "cost" -> 2;
            case "net", "lift", "fail" -> 1;
            case "tidy" -> 0;
            default -> -1;
        };
    }

    private static boolean stands(String word, int k, String thing) {
        String bounds = switch (word) {
            case "net" -> "0?[2-9]|1[0-6]";
            case "lay", "fail" -> "0?[0-9]|1[0-5]";
            case "cost" -> k == 1 ? "[0-9]{1,2}" : "[0-5]?[0-9]";
            default -> "[0-5]?[0-9]";
        };
        return thing.matches(bounds);
    }

    private void perform(String word, int each, List<Integer> numbers) {
        if (word.equals("net")) {
            aside = new Model(numbers.get(0));
            return;
        }
        int times = each == 0 ? 1 : numbers.size() / each;
        for (int i = 0; i < times && refused == 0; i++) {
            int a = each > 0 ? numbers.get(i * each) : 0;
            int b = each > 1 ? numbers.get(i * each + 1) : 0;
            refused = aside.act(word, a, b)[0];
        }
    }

    // ---- texts

    private String text() {
        StringBuilder t = new StringBuilder(blanks());
        int many = dice.nextInt(8) == 0 ? 12 + dice.nextInt(4) : dice.nextInt(5);
        int laid = m.cables.size();
        for (int i = 0; i < many && t.length() < 340; i++) {
            String word = many > 11 ? List.of("tidy", "lay").get(dice.nextInt(2)) : word();
            t.append(i > 0 ? ";" : "").append(blanks()).append(word).append(blanks());
            int times = word.matches("lay|lift") ? 1 + dice.nextInt(3) : 1;
            for (int k = 0; k < times; k++) {
                t.append(k > 0 ? "," : "").append(blanks()).append(numbers(word, laid)).append(blanks());
            }
            laid += word.equals("lay") ? times : 0;
        }
        int damages = Math.max(0, dice.nextInt(5) - 2);
        for (int i = 0; i < damages; i++) {
            damage(t);
        }
        return t.toString();
    }

    private String word() {
        return List.of("lay", "lay", "lay", "lift", "cost", "tidy", "fail", "swap", "net").get(dice.nextInt(dice.nextInt(3) == 0 ? 9 : 6));
    }

    private String numbers(String word, int laid) {
        int a = dice.nextInt(m.nodes);
        int cable = dice.nextInt(Math.min(59, laid) + 1);
        return switch (word) {
            case "lay" -> a + " " + (a + 1 + dice.nextInt(m.nodes - 1)) % m.nodes;
            case "lift" -> number(cable);
            case "cost" -> cable + " " + number(dice.nextInt(101));
            case "swap" -> cable + " " + dice.nextInt(61);
            case "fail" -> number(dice.nextInt(17));
            case "net" -> number(1 + dice.nextInt(17));
            default -> "";
        };
    }

    private String number(int n) {
        return dice.nextInt(8) == 0 ? "0" + n : "" + n;
    }

    private String blanks() {
        return " ".repeat(Math.max(0, dice.nextInt(4) - 2));
    }

    private void damage(StringBuilder t) {
        int at = dice.nextInt(t.length() + 1);
        char sign = DAMAGE.charAt(dice.nextInt(DAMAGE.length()));
        switch (dice.nextInt(4)) {
            case 0:
                t.insert(at, sign);
                break;
            case 1:
                t.append(sign);
                break;
            case 2:
                t.setLength(dice.nextInt(3) == 0 ? at : t.length());
                break;
            default:
                if (at < t.length()) {
                    t.setCharAt(at, sign);
                }
                break;
        }
    }
}
