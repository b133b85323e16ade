import java.lang.reflect.InvocationTargetException;
import java.lang.reflect.Method;
import java.util.Arrays;
import java.util.Comparator;
import java.util.List;
import java.util.Random;

/** Calls with any numbers and texts of any bytes: each ends, and throws nothing but what its face names, just that class. */
public final class WildTest {
    private static final int[] NUMBERS = {Integer.MIN_VALUE, -100, -2, -1, 0, 1, 2, 3, 4, 5, 7, 9, 12, 15, 16, 17, 31, 32,
        39, 40, 41, 59, 60, 61, 99, 100, 255, 399, 400, 1 << 20, Integer.MAX_VALUE};
    private static final String SIGNS = "netlayifswpdcos 0123456789,;  ,; ";
    private static final List<String> PIECES = List.of("net 9", "lay 0 1", "lay 1 2,2 0", "lift 0", "lift 1,2", "swap 0 2", "fail 1",
            "tidy", "cost 0 9", ";", ";", ";", ";", ";", ",", " ", "7", "x");

    public static void main(String[] args) throws IllegalAccessException {
        Method[] face = Arrays.stream(CableForest.class.getDeclaredMethods())
                .filter(m -> (m.getModifiers() & 1) != 0).toArray(Method[]::new);
        Arrays.sort(face, Comparator.comparing(Method::getName));
        Random dice = new Random(7);
        int wrong = 0;
        for (int run = 0; run < 1500; run++) {
            CableForest x = new CableForest();
            boolean wild = run % 2 == 0;
            for (int call = 0; call < 512 && wrong < 10; call++) {
                Method m = face[dice.nextInt(face.length)];
                if (dice.nextInt(6) == 0) {
                    Tapes.put(x, text(dice));
                }
                if (dice.nextInt(3) == 0) {
                    x.count(2);
                    layOne(x, dice);
                }
                Object[] taken = new Object[m.getParameterCount()];
                for (int i = 0; i < taken.length; i++) {
                    taken[i] = wild && dice.nextInt(3) == 0 ? NUMBERS[dice.nextInt(NUMBERS.length)] : dice.nextInt(8);
                }
                wrong += judge(x, m, taken) ? 0 : 1;
            }
        }
        if (wrong > 0) {
            System.exit(1);
        }
        System.out.println("nothing is thrown that the face does not name");
    }

    private static void layOne(CableForest x, Random dice) {
        int a = dice.nextInt(x.count(0));
        int b = dice.nextInt(x.count(0));
        if (a != b && x.count(2) < 60) {
            x.lay(a, b);
        }
    }

    private static boolean judge(CableForest x, Method m, Object[] taken) throws IllegalAccessException {
        try {
            m.invoke(x, taken);
            return true;
        } catch (InvocationTargetException e) {
            if (Arrays.asList(m.getExceptionTypes()).contains(e.getCause().getClass())) {
                return true;
            }
            System.out.println(m.getName() + Arrays.toString(taken) + " throws " + e.getCause());
            return false;
        }
    }

    private static String text(Random dice) {
        StringBuilder t = new StringBuilder();
        int kind = dice.nextInt(4);
        int length = dice.nextInt(kind == 3 ? 30 : 60);
        for (int i = 0; i < length; i++) {
            if (kind == 0) {
                t.append((char) dice.nextInt(256));
            } else if (kind == 1) {
                t.append(SIGNS.charAt(dice.nextInt(SIGNS.length())));
            } else {
                t.append(PIECES.get(dice.nextInt(PIECES.size())));
                t.append(kind == 3 ? ";" : "");
            }
        }
        return t.length() > 380 ? t.substring(0, 380) : t.toString();
    }
}
