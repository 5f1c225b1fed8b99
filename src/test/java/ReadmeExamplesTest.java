import java.util.ArrayList;
import java.util.List;

/** That the examples of README.md are asked, and that one that tells no answer is refused. */
public final class ReadmeExamplesTest {
    private static final String MADE = "SpiralDominoes x = new SpiralDominoes();";

    private ReadmeExamplesTest() {
    }

    public static void main(String[] args) {
        callsWithAnswers();
        callsThatThrow();
        callsWithoutAnswers();
        otherLines();
        pagesWithoutExamples();
        methodsWithoutExamples();
        Check.end();
    }

    private static List<String> page(String... lines) {
        List<String> page = new ArrayList<>(List.of("Text.", "```java", MADE));
        page.addAll(List.of(lines));
        page.add("```");
        return page;
    }

    private static void contains(List<String> page, String due) {
        String test = ReadmeExamples.testOf(page);
        Check.due("whether " + due + " is in " + test, test.contains(due) ? 1 : 0, 1);
    }

    private static void refused(List<String> page) {
        Check.argument("the test of " + page, () -> ReadmeExamples.testOf(page).length());
    }

    private static void callsWithAnswers() {
        contains(page("x.free(0);    // 625"),
            "Check.same(\"README.md:4: x.free(0)\", Check.outcome(() -> x.free(0)), \"625\");");
        contains(page("x.play(7, true); // 0: it is laid"),
            "Check.same(\"README.md:4: x.play(7, true)\", Check.outcome(() -> x.play(7, true)), \"0\");");
        contains(page("x.best(); // NONE: none"),
            "Check.same(\"README.md:4: x.best()\", Check.outcome(() -> x.best()), \"\" + SpiralDominoes.NONE);");
    }

    private static void callsThatThrow() {
        contains(page("x.undo(); // throws IllegalStateException: why"),
            "Check.same(\"README.md:4: x.undo()\", Check.outcome(() -> x.undo()), \"IllegalStateException\");");
    }

    private static void callsWithoutAnswers() {
        refused(page("x.best();"));
        refused(page("x.best(); // the best one"));
        refused(page("x.best(); // 12 or so"));
        refused(page("x.best(); // NONE at all"));
        refused(page("x.best(); x.legal(); "));
    }

    private static void otherLines() {
        contains(page("for (int k = 0; k < 3; k++) {", "    x.append('N');", "}"),
            "for (int k = 0; k < 3; k++) {\n            x.append('N');\n        }\n");
        String test = ReadmeExamples.testOf(page("x.best(); // NONE", "```", "x.undo(); // 0", "```java", MADE));
        Check.due("x.undo() between two examples is asked", test.contains("undo") ? 1 : 0, 0);
        Check.due("the second example is run", test.contains("example2();\n") ? 1 : 0, 1);
    }

    private static void pagesWithoutExamples() {
        refused(List.of("Text."));
        refused(List.of("```sh", ".ci/run", "```"));
        refused(List.of("```java", MADE));
    }

    private static void methodsWithoutExamples() {
        List<String> page = page("x.best(); // NONE", "while (x.undo() > 0) {", "}");
        String missing = ReadmeExamples.methodsWithout(page).toString();
        Check.same("the methods without an example", missing, "[about, append, at, chain, clearText, deal, draw, "
            + "errorPosition, free, laid, legal, load, pass, play, playerOf, reach, restore, runScript, save, simulate, "
            + "tileOf, why]");
    }
}
