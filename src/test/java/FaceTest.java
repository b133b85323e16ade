import java.lang.reflect.Constructor;
import java.lang.reflect.Field;
import java.lang.reflect.Method;
import java.lang.reflect.Modifier;
import java.util.Arrays;
import java.util.List;
import java.util.Set;
import java.util.TreeSet;
import java.util.stream.Collectors;

/** The class has the document's face, whole, and shows nothing else. */
public final class FaceTest {
    private static final List<String> FACE = List.of(
            "int feed(int,int,int,int,int)", "boolean end(int)", "int acts() IllegalArgumentException", "int fault()",
            "int why()", "int net(int) IllegalArgumentException", "int lay(int,int) IllegalStateException",
            "int lift(int) IllegalStateException", "int cost(int,int) IllegalArgumentException IllegalStateException",
            "int tries() IllegalArgumentException", "int swap(int,int) IllegalStateException",
            "int fail(int) IllegalStateException", "int tidy()", "int undo() IllegalStateException",
            "boolean connected(int,int) IndexOutOfBoundsException",
            "int node(int,int) IndexOutOfBoundsException NoSuchElementException",
            "int cable(int,int) IndexOutOfBoundsException NoSuchElementException",
            "int part(int,int) IndexOutOfBoundsException",
            "int level(int,int) IndexOutOfBoundsException NoSuchElementException",
            "int tour(int,int,int) IndexOutOfBoundsException", "int deep(int,int) IndexOutOfBoundsException",
            "int way(int,int,int) IndexOutOfBoundsException", "int near(int,int) IndexOutOfBoundsException",
            "int heir(int) IndexOutOfBoundsException IllegalStateException",
            "int would(int,int) IndexOutOfBoundsException NoSuchElementException IllegalStateException",
            "boolean bridge(int) IndexOutOfBoundsException",
            "int kin(int,int,int) IndexOutOfBoundsException NoSuchElementException",
            "int meet(int,int,int) IndexOutOfBoundsException",
            "int within(int,int) IndexOutOfBoundsException IllegalArgumentException",
            "int odds(int,int) IndexOutOfBoundsException", "int fare(int,int) IndexOutOfBoundsException",
            "int named(int)", "int log(int,int) NoSuchElementException", "int hinges()",
            "int cut(int,int) IndexOutOfBoundsException", "void image()", "boolean back()", "int count(int)");

    public static void main(String[] args) {
        Set<String> wrong = new TreeSet<>();
        Set<String> seen = new TreeSet<>();
        Set<String> open = new TreeSet<>();
        if (!Modifier.isPublic(CableForest.class.getModifiers()) || !Modifier.isFinal(CableForest.class.getModifiers())) {
            wrong.add("the class is public and final");
        }
        for (Method m : CableForest.class.getDeclaredMethods()) {
            if (!Modifier.isPrivate(m.getModifiers())) {
                seen.add(textOf(m));
                open.add(m.getName());
            }
        }
        for (Method m : CableForest.class.getDeclaredMethods()) {
            if (Modifier.isPrivate(m.getModifiers()) && open.contains(m.getName())) {
                wrong.add("a private method bears the name " + m.getName());
            }
        }
        for (String method : FACE) {
            if (!seen.remove(method)) {
                wrong.add("missing: " + method);
            }
        }
        seen.forEach(method -> wrong.add("not of the face: " + method));
        for (Field f : CableForest.class.getDeclaredFields()) {
            if (!Modifier.isPrivate(f.getModifiers()) && !f.getName().equals("NONE")) {
                wrong.add("field " + f.getName());
            }
        }
        Constructor<?>[] made = CableForest.class.getDeclaredConstructors();
        if (made.length != 1 || made[0].getParameterCount() != 0 || !Modifier.isPublic(made[0].getModifiers())) {
            wrong.add("one public constructor without parameters");
        }
        wrong.forEach(System.out::println);
        if (!wrong.isEmpty()) {
            System.exit(1);
        }
        System.out.println("the face is the document's");
    }

    private static String textOf(Method m) {
        String thrown = Arrays.stream(m.getExceptionTypes()).map(Class::getSimpleName).collect(Collectors.joining(" "));
        String taken = Arrays.stream(m.getParameterTypes()).map(Class::getSimpleName).collect(Collectors.joining(","));
        return (m.getReturnType().getSimpleName() + " " + m.getName() + "(" + taken + ") " + thrown).trim();
    }
}
