import java.io.IOException;
import java.nio.file.Files;
import java.nio.file.Path;
import java.util.List;
import java.util.regex.Matcher;
import java.util.regex.Pattern;

/** What a look at the source's lines can tell of LANGUAGE.md's rules; run from the project's folder. */
public final class RulesTest {
    private static final List<String> NEVER = List.of("->", "::", "catch", "finally", "assert", "synchronized", "try {",
            "while (true)", "for (;;)", "static {", "Exact(", "System.out", "Random", "hashCode", "package ", "volatile", "double", "float");
    private static final Pattern METHOD = Pattern.compile("^ +(?:public |private )?(?:static )?(?:int|long|void|boolean|String) \\w+\\((.*)\\).*\\{$");
    private static int wrong = 0;

    public static void main(String[] args) throws IOException {
        List<String> lines = Files.readAllLines(Path.of("src/main/java/CableForest.java"));
        String method = "";
        int begin = -1;
        for (int i = 0; i < lines.size(); i++) {
            String line = lines.get(i);
            String code = line.replaceAll("\"[^\"]*\"", "\"\"").replaceAll("//.*|^ */?\\*.*", "");
            for (String word : NEVER) {
                say(code.contains(word), i, "has " + word);
            }
            say(code.startsWith("import ") && !code.equals("import java.util.Arrays;")
                    && !code.equals("import java.util.NoSuchElementException;"), i, "import");
            say(code.contains(" static ") && !code.contains("(") && !code.contains(" final "), i, "static that is not final");
            say(line.chars().anyMatch(c -> c > 127), i, "a sign above 127");
            Matcher m = METHOD.matcher(code);
            if (m.matches()) {
                method = code.substring(0, code.length() - code.stripLeading().length()) + "}";
                begin = i;
                say(m.group(1).split(",").length > 7, i, "more than seven parameters");
            }
            if (begin >= 0 && line.equals(method)) {
                say(i - begin + 1 > 60, begin, "a method of more than sixty lines");
                begin = -1;
            }
            // Rows are made with the object and used again: in a method nothing is made but what it throws.
            say(begin >= 0 && code.contains("new ") && !code.contains("throw new "), i, "makes an object");
        }
        if (wrong > 0) {
            System.exit(1);
        }
        System.out.println("the source keeps to what can be seen of the rules");
    }

    private static void say(boolean bad, int line, String what) {
        if (bad) {
            wrong++;
            System.out.println("line " + (line + 1) + ": " + what);
        }
    }
}
