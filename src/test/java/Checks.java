import java.lang.reflect.InvocationTargetException;
import java.lang.reflect.Method;
import java.util.Arrays;
import java.util.Comparator;
import java.util.List;
import java.util.Map;
import java.util.NoSuchElementException;
import java.util.function.Consumer;
import java.util.function.IntToLongFunction;
import java.util.function.LongSupplier;
import java.util.function.Supplier;
import java.util.function.ToLongFunction;

/** What the tests by hand have in common; a test class extends it. */
abstract class Checks {
    static final int IOOB = -101;
    static final int NSE = -102;
    static final int ISE = -103;
    static final int IAE = -104;
    private static final int FOREIGN = -999;
    private static int wrong = 0;
    private static String running = "";
    private static Map<String, Long> busyLooks = null;

    /** Runs each method whose name begins with p and a promise's number; each promise from the one to the other has one. */
    static void runPromises(Class<?> tests, int from, int to) {
        Method[] found = Arrays.stream(tests.getDeclaredMethods())
                .filter(m -> m.getName().matches("p\\d\\d_\\w+")).toArray(Method[]::new);
        Arrays.sort(found, Comparator.comparing(Method::getName));
        for (int promise = from; promise <= to; promise++) {
            String begin = String.format("p%02d_", promise);
            is("a test of " + begin, Arrays.stream(found).anyMatch(m -> m.getName().startsWith(begin)), true);
        }
        for (Method test : found) {
            running = test.getName() + ": ";
            try {
                test.invoke(null);
            } catch (IllegalAccessException | InvocationTargetException e) {
                wrong++;
                System.out.println(running + "it throws " + e.getCause());
            }
        }
        finish(found.length + " tests hold");
    }

    static void finish(String right) {
        if (wrong > 0) {
            System.exit(1);
        }
        System.out.println(right);
    }

    static void is(String what, long got, long want) {
        if (got != want) {
            wrong++;
            System.out.println(running + what + " answered " + got + ", due is " + want);
        }
    }

    static void is(String what, boolean got, boolean want) {
        is(what, got ? 1 : 0, want ? 1 : 0);
    }

    static void isText(String what, String got, String want) {
        if (!got.equals(want)) {
            wrong++;
            System.out.println(running + what + " is " + got + ", due is " + want);
        }
    }

    /** A call's answer, or the number above that stands for what it throws. */
    static long of(LongSupplier call) {
        try {
            return call.getAsLong();
        } catch (RuntimeException e) {
            List<Class<?>> known = List.of(IndexOutOfBoundsException.class, NoSuchElementException.class,
                    IllegalStateException.class, IllegalArgumentException.class);
            int at = known.indexOf(e.getClass());
            if (at < 0) {
                // Never due, so it counts even where two answers are only held against each other.
                wrong++;
                System.out.println(running + "a call throws " + e);
            }
            return at < 0 ? FOREIGN : IOOB - at;
        }
    }

    static long acts(CableForest x, String text) {
        Tapes.put(x, text);
        return of(x::acts);
    }

    static long tries(CableForest x, String text) {
        Tapes.put(x, text);
        return of(x::tries);
    }

    static CableForest made(String text) {
        CableForest x = new CableForest();
        if (acts(x, text) < 0) {
            wrong++;
            System.out.println(running + "the text is wrong at " + x.fault() + ": " + text);
        }
        return x;
    }

    static String tour(CableForest x, int level, int node) {
        StringBuilder t = new StringBuilder();
        for (int k = 0; k < 60 && x.tour(level, node, k) != CableForest.NONE; k++) {
            t.append(k > 0 ? " " : "").append(x.tour(level, node, k));
        }
        return t.toString();
    }

    static void isTour(CableForest x, int level, int node, String want) {
        isText("tour of " + node + " on " + level, tour(x, level, node), want);
    }

    /** A path through the nodes 0 to many - 1, by cables with the same numbers as their first ends. */
    static String path(int many) {
        StringBuilder t = new StringBuilder("net " + many + ";lay 0 1");
        for (int node = 1; node + 1 < many; node++) {
            t.append(',').append(node).append(' ').append(node + 1);
        }
        return t.toString();
    }

    /**
     * An object with something of everything: 8 nodes, 10 cables laid, tree and spare ones, 1 and 3 lifted, levels
     * 0 to 2, two parts, an image, four acts remembered, WHY 2, fault 0, a text that waits on the tape.
     */
    static CableForest busy() {
        CableForest x = made(path(8) + ",0 7;lift 3;cost 2 9");
        x.image();
        x.lay(0, 1);
        x.lift(1);
        x.cost(0, 7);
        x.lay(4, 6);
        of(() -> x.lay(0, 0));
        acts(x, "nett");
        Tapes.put(x, "lay 0 2;tidy;lift 5");
        return x;
    }

    /** The busy object with another text that waits. */
    static CableForest busyWith(String text) {
        CableForest x = busy();
        x.end(0);
        Tapes.put(x, text);
        return x;
    }

    /** All that can be asked is answered as without the call, but for what is named ("why", "fault", "tape"). */
    static void leaves(String what, Supplier<CableForest> maker, Consumer<CableForest> call, String... but) {
        compare(what, Looks.at(maker), maker, call, but);
    }

    private static void compare(String what, Map<String, Long> ahead, Supplier<CableForest> maker, Consumer<CableForest> call, String... but) {
        Map<String, Long> behind = Looks.at(() -> {
            CableForest x = maker.get();
            call.accept(x);
            return x;
        });
        List<String> may = Arrays.asList(but);
        for (Map.Entry<String, Long> look : ahead.entrySet()) {
            if (!may.contains(look.getKey()) && !look.getValue().equals(behind.get(look.getKey()))) {
                is(what + " and then " + look.getKey(), behind.getOrDefault(look.getKey(), (long) FOREIGN), look.getValue());
                return;
            }
        }
        is(what + " and then questions", behind.size(), ahead.size());
    }

    /** A call of the busy object answers (or throws) what is due, and leaves all as it was but for what is named. */
    static void busyLeaves(String what, ToLongFunction<CableForest> call, long due, String... but) {
        if (busyLooks == null) {
            busyLooks = Looks.at(Checks::busy);
        }
        CableForest x = busy();
        is(what, of(() -> call.applyAsLong(x)), due);
        compare(what, busyLooks, Checks::busy, y -> of(() -> call.applyAsLong(y)), but);
    }

    /** An act is refused by a number, and leaves all as it was but for WHY. */
    static void refused(String what, ToLongFunction<CableForest> call, int why) {
        busyLeaves(what, call, ISE, "why");
        CableForest x = busy();
        of(() -> call.applyAsLong(x));
        is("why of " + what, x.why(), why);
    }

    /** A wrong text, told to the busy object by acts and by tries; why is 0 if WHY is to stay. */
    static void wrongText(String text, int at, int why) {
        CableForest x = busyWith(text);
        is("acts <" + text + ">", of(x::acts), IAE);
        is("fault of <" + text + ">", x.fault(), at);
        is("why of <" + text + ">", x.why(), why == 0 ? 2 : why);
        leaves("acts <" + text + ">", () -> busyWith(text), y -> of(y::acts), "tape", "tape read", "fault", "why");
        CableForest z = busyWith(text);
        is("tries <" + text + ">", of(z::tries), IAE);
        is("fault of tried <" + text + ">", z.fault(), at);
        leaves("tries <" + text + ">", () -> busyWith(text), y -> of(y::tries), "tape", "tape read", "fault");
        is("tape behind <" + text + ">", z.feed(0, 0, 0, 0, 0), 20);
    }

    /** A right text of a new object: how many acts, no fault, WHY 0. */
    static CableForest rightText(String text, int acts) {
        CableForest x = new CableForest();
        is("acts <" + text + ">", acts(x, text), acts);
        is("fault of <" + text + ">", x.fault(), -1);
        is("why of <" + text + ">", x.why(), 0);
        is("tape behind <" + text + ">", x.feed(0, 0, 0, 0, 0), 20);
        return x;
    }

    /** No exception for the first and the last number, and one, that is due, for all beyond them. */
    static void edges(String what, IntToLongFunction call, int first, int last, int thrown) {
        for (int inside : new int[] {first, last}) {
            is(what + " throws at " + inside, of(() -> call.applyAsLong(inside)) < -100, false);
        }
        for (int outside : new int[] {first - 1, last + 1, Integer.MIN_VALUE, Integer.MAX_VALUE}) {
            is(what + " at " + outside, of(() -> call.applyAsLong(outside)), thrown);
        }
    }
}
