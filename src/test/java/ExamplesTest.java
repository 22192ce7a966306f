import java.nio.file.Path;
import java.util.List;
import java.util.Map;
import java.util.regex.Matcher;
import java.util.regex.Pattern;

/** The examples 1 to 6 as the document has them, and the one of README.md, call by call. */
final class ExamplesTest {
    /** How many calls each example of the document has, lest one be overlooked. */
    private static final int[] CALLS = {9, 10, 8, 6, 7, 8};
    private static final Pattern README_CALL =
            Pattern.compile(" {4}desk\\.(\\w+\\(.*\\)); +// = (throws \\w+|-?\\d+)\\b.*");

    private ExamplesTest() {
    }

    public static void main(String[] args) {
        List<String> examples = DocumentText.examples();
        Checks.test("the document has six examples",
                () -> Checks.due("examples", examples.size(), CALLS.length));
        for (int i = 0; i < examples.size() && i < CALLS.length; i++) {
            String example = examples.get(i);
            int calls = CALLS[i];
            Checks.test("example " + example.substring(0, example.indexOf(':')),
                    () -> run(example.substring(example.indexOf(':') + 1), calls));
        }
        Checks.test("the example of README.md", () -> run(readme(), 10));
        Checks.finish();
    }

    private static void run(String statements, int calls) {
        Checks.due("calls with their results", statements.split(" = ").length - 1, calls);
        new Script(Map.of(), SectionDesk::new).runAll(statements);
        new Script(Map.of(), PlainDesk::new).runAll(statements);
    }

    private static String readme() {
        StringBuilder statements = new StringBuilder();
        for (String line : DocumentText.linesOf(Path.of("README.md"))) {
            Matcher call = README_CALL.matcher(line);
            if (call.matches()) {
                statements.append(call.group(1)).append(" = ").append(call.group(2)).append("; ");
            } else if (line.startsWith("    desk.")) {
                Checks.fail("README.md tells no result: " + line.strip());
            }
        }
        return statements.toString();
    }
}
