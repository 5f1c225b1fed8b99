import java.io.IOException;
import java.lang.reflect.Method;
import java.lang.reflect.Modifier;
import java.nio.file.Files;
import java.nio.file.Path;
import java.util.List;
import java.util.Set;
import java.util.TreeSet;
import java.util.regex.Matcher;
import java.util.regex.Pattern;

/** Makes a test of the examples in README.md: it asks each call whose answer is told, and compares. */
final class ReadmeExamples {
    private static final String BEGIN = "```java";
    private static final String END = "```";
    private static final Pattern CALL = Pattern.compile("x\\.(\\w+)\\(");
    private static final Pattern TOLD =
        Pattern.compile("(x\\.\\w+\\(.*\\)); *// (?:throws (\\w+)|(NONE)|(-?\\d+))(?::.*)?");

    private final StringBuilder body = new StringBuilder();
    private final Set<String> asked = new TreeSet<>();
    private int examples;
    private boolean inside;

    private ReadmeExamples() {
    }

    public static void main(String[] args) throws IOException {
        List<String> page = Files.readAllLines(Path.of(args[0]));
        String missing = methodsWithout(page).toString();
        if (!missing.equals("[]")) {
            throw new IllegalArgumentException("README.md has no example of " + missing);
        }
        System.out.print(testOf(page));
    }

    /** The source of the class ReadmeTest. */
    static String testOf(List<String> page) {
        ReadmeExamples made = read(page);
        StringBuilder test = new StringBuilder("public final class ReadmeTest {\n");
        test.append("    public static void main(String[] args) {\n");
        for (int k = 1; k <= made.examples; k++) {
            test.append("        example").append(k).append("();\n");
        }
        test.append("        Check.end();\n    }\n");
        return test.append(made.body).append("}\n").toString();
    }

    /** The methods of the face that no example asks. */
    static Set<String> methodsWithout(List<String> page) {
        Set<String> missing = new TreeSet<>();
        for (Method method : SpiralDominoes.class.getDeclaredMethods()) {
            if (Modifier.isPublic(method.getModifiers())) {
                missing.add(method.getName());
            }
        }
        missing.removeAll(read(page).asked);
        return missing;
    }

    private static ReadmeExamples read(List<String> page) {
        ReadmeExamples made = new ReadmeExamples();
        for (int i = 0; i < page.size(); i++) {
            made.take(page.get(i), "README.md:" + (i + 1));
        }
        if (made.inside || made.examples == 0) {
            throw new IllegalArgumentException("README.md has no examples, or one without an end");
        }
        return made;
    }

    private void take(String line, String where) {
        if (!inside && line.startsWith(BEGIN)) {
            inside = true;
            examples++;
            body.append("\n    private static void example").append(examples).append("() {\n");
        } else if (inside && line.startsWith(END)) {
            inside = false;
            body.append("    }\n");
        } else if (inside) {
            body.append("        ").append(statementOf(line, where)).append('\n');
        }
    }

    // A call in a loop has no answer of its own; each other one has to tell what it answers.
    private String statementOf(String line, String where) {
        Matcher calls = CALL.matcher(line);
        while (calls.find()) {
            asked.add(calls.group(1));
        }
        if (!line.startsWith("x.")) {
            return line;
        }
        Matcher told = TOLD.matcher(line);
        if (!told.matches()) {
            throw new IllegalArgumentException(where + " does not tell what " + line + " answers");
        }
        String call = told.group(1);
        return "Check.same(\"" + where + ": " + call.replace("\"", "\\\"") + "\", Check.outcome(() -> " + call + "), "
            + answerOf(told) + ");";
    }

    private static String answerOf(Matcher told) {
        if (told.group(2) != null) {
            return "\"" + told.group(2) + "\"";
        }
        return told.group(3) != null ? "\"\" + SpiralDominoes.NONE" : "\"" + told.group(4) + "\"";
    }
}
