import java.io.IOException;
import java.nio.file.Files;
import java.nio.file.Path;
import java.util.ArrayList;
import java.util.LinkedHashMap;
import java.util.List;
import java.util.Map;

/** What ../shared/DOC.md says, taken apart: its sentences, its signatures and its examples. */
final class DocumentText {
    private static final String PARAGRAPHS = "(Document|Check-outs|Requests|Time|Returning|History"
            + "|Structure|Orders|Use|Undo|Exceptions)\\. .*";
    private static final String SIGNATURE = "`.*\\(.*`";

    private DocumentText() {
    }

    static List<String> linesOf(Path file) {
        try {
            return Files.readAllLines(file);
        } catch (IOException missing) {
            throw new IllegalStateException(missing);
        }
    }

    private static List<String> document() {
        return linesOf(Path.of("../shared/DOC.md"));
    }

    /**
     * The sentences of "What it is", of the paragraphs of the description, of the constants and of
     * the promises, each part in one line.
     */
    static Map<String, String> parts() {
        Map<String, String> parts = new LinkedHashMap<>();
        String part = "";
        for (String line : document()) {
            if (line.startsWith("## ")) {
                part = partOf(line);
                continue;
            }
            if (line.matches(PARAGRAPHS)) {
                part = line.substring(0, line.indexOf('.'));
                parts.put(part, line.substring(part.length() + 1).strip());
                continue;
            }
            if (line.startsWith("Examples: ")) {
                part = "";
            } else if (line.equals("The constants:")) {
                part = "Constants";
                continue;
            }
            boolean words = !line.isBlank() && !line.startsWith("----") && !line.matches(SIGNATURE);
            if (!part.isEmpty() && words) {
                parts.merge(part, line.strip(), (all, more) -> all + " " + more);
            }
        }
        return parts;
    }

    private static String partOf(String heading) {
        if (heading.startsWith("## Promise ")) {
            return heading.substring(11).replace(":", "");
        }
        return heading.equals("## What it is") ? "What it is" : "";
    }

    /** The lines of the class in "The public face", from its head to its last method. */
    static List<String> face() {
        List<String> face = new ArrayList<>();
        boolean inFace = false;
        for (String line : document()) {
            if (line.startsWith("```")) {
                inFace = !inFace;
            } else if (inFace && !line.equals("}")) {
                face.add(line.strip());
            }
        }
        return face;
    }

    /** The signatures as the promises tell them, in their order. */
    static List<String> promised() {
        List<String> promised = new ArrayList<>();
        for (String line : document()) {
            if (line.matches(SIGNATURE)) {
                promised.add(line.substring(1, line.length() - 1));
            }
        }
        return promised;
    }

    /** The examples 1, 2 and so on, each in one line, without the full stop. */
    static List<String> examples() {
        List<String> examples = new ArrayList<>();
        boolean inExamples = false;
        for (String line : document()) {
            if (line.startsWith("Examples: ")) {
                inExamples = true;
            } else if (line.isBlank()) {
                inExamples = false;
            } else if (inExamples && line.matches("\\d+\\. .*")) {
                examples.add(line);
            } else if (inExamples) {
                int last = examples.size() - 1;
                examples.set(last, examples.get(last) + " " + line.strip());
            }
        }
        examples.replaceAll(example -> example.replaceFirst("\\.$", ""));
        return examples;
    }
}
