import java.io.IOException;
import java.nio.file.Files;
import java.nio.file.Path;
import java.util.ArrayList;
import java.util.Arrays;
import java.util.HashMap;
import java.util.List;
import java.util.Map;
import java.util.function.Supplier;
import java.util.stream.Stream;

/**
 * The document, sentence by sentence: src/test/sentences quotes every one of them with the runs of
 * calls that would tell if it did not hold. The same runs are made on PlainDesk, so that what
 * ModelTest compares with keeps to the sentences, too; and every word of the document must be
 * quoted with at least one run.
 */
final class SentenceTest {
    private record Run(String part, String sentence, String name, StringBuilder statements) { }

    private final Map<String, String> fixtures = new HashMap<>();
    private final List<Run> runs = new ArrayList<>();

    private SentenceTest() {
    }

    public static void main(String[] args) {
        SentenceTest test = new SentenceTest();
        for (Path file : files()) {
            test.read(DocumentText.linesOf(file));
        }
        for (Run run : test.runs) {
            Checks.test(run.part + ", " + run.sentence + " : " + run.name,
                    () -> test.make(run, SectionDesk::new));
        }
        Checks.test("PlainDesk keeps to all these sentences", () -> test.makeAllPlain());
        Checks.test("every sentence of the document is quoted", () -> test.compareWithDocument());
        Checks.finish();
    }

    private static List<Path> files() {
        try (Stream<Path> found = Files.list(Path.of("src/test/sentences"))) {
            return found.filter(file -> file.toString().endsWith(".txt")).sorted().toList();
        } catch (IOException missing) {
            throw new IllegalStateException(missing);
        }
    }

    /** Each line's first sign tells what it is; README.md lists them. */
    private void read(List<String> lines) {
        String part = "";
        String sentence = "";
        for (String line : lines) {
            String rest = line.length() > 2 ? line.substring(2).strip() : "";
            if (line.startsWith("= ")) {
                part = rest;
            } else if (line.startsWith("\" ")) {
                sentence = rest;
            } else if (line.startsWith("- ")) {
                runs.add(new Run(part, sentence, rest, new StringBuilder()));
            } else if (line.startsWith("* ")) {
                int colon = rest.indexOf(':');
                fixtures.put(rest.substring(0, colon), rest.substring(colon + 1));
            } else if (line.startsWith("  ")) {
                boolean goesOn = rest.endsWith("\\");
                String statements = goesOn ? rest.substring(0, rest.length() - 1) : rest + ';';
                runs.get(runs.size() - 1).statements.append(statements);
            } else if (!line.isBlank() && !line.startsWith("# ")) {
                throw new IllegalArgumentException(line);
            }
        }
    }

    private void make(Run run, Supplier<Object> maker) {
        if (run.statements.length() == 0) {
            Checks.fail("it makes no call");
        }
        new Script(fixtures, maker).runAll(run.statements.toString());
    }

    private void makeAllPlain() {
        for (Run run : runs) {
            boolean before = Checks.isFine();
            make(run, PlainDesk::new);
            if (before && !Checks.isFine()) {
                Checks.fail("in " + run.part + ", " + run.sentence + ": " + run.name);
            }
        }
    }

    private void compareWithDocument() {
        Map<String, String> parts = DocumentText.parts();
        Map<String, boolean[]> quoted = new HashMap<>();
        parts.forEach((part, text) -> quoted.put(part, new boolean[text.length()]));
        for (Run run : runs) {
            if (!parts.containsKey(run.part) || !parts.get(run.part).contains(run.sentence)) {
                Checks.fail(run.part + " does not say: " + run.sentence);
            } else {
                mark(parts.get(run.part), run.sentence, quoted.get(run.part));
            }
        }
        parts.forEach((part, text) -> tellUnquoted(part, text, quoted.get(part)));
    }

    private static void mark(String text, String sentence, boolean[] quoted) {
        for (int at = text.indexOf(sentence); at >= 0; at = text.indexOf(sentence, at + 1)) {
            Arrays.fill(quoted, at, at + sentence.length(), true);
        }
    }

    private static void tellUnquoted(String part, String text, boolean[] quoted) {
        StringBuilder missing = new StringBuilder();
        for (int i = 0; i <= text.length(); i++) {
            if (i < text.length() && !quoted[i]) {
                missing.append(text.charAt(i));
            } else if (missing.toString().matches("(?s).*\\w.*")) {
                Checks.fail(part + ": nothing quotes \"" + missing.toString().strip() + "\"");
                missing.setLength(0);
            } else {
                missing.setLength(0);
            }
        }
    }
}
