import java.util.ArrayList;
import java.util.HashMap;
import java.util.List;
import java.util.Map;
import java.util.function.Supplier;
import java.util.regex.Matcher;
import java.util.regex.Pattern;

/**
 * A run of calls that is told as a text, in the way of the document's examples; README.md tells
 * what may stand in it. After each call that throws, and once more at the end by a second object
 * on which only the calls that may change something are made, it is looked whether the other calls
 * have changed nothing: the state, the saved states and the order text.
 */
final class Script {
    private static final List<String> QUERIES = List.of("sections", "section", "child", "line",
            "copied", "conflicts", "checkOut", "holders", "ifBroken", "grantedAt", "waitsFor",
            "entries", "entry", "blame", "lineAt", "waiting", "waitingAt", "useBits", "outline",
            "digest");
    private static final Pattern LOOP = Pattern.compile("for (\\d+)\\.\\.(\\d+) (.*)");
    private static final Pattern CALL = Pattern.compile("(\\w+)\\(([^()]*)\\)(?: = (.+))?");
    private static final Pattern COUNTED = Pattern.compile("#(?:([+-])(\\d+))?");

    private record Change(String name, List<Object> arguments) { }

    private final Map<String, String> fixtures;
    private final Target target;
    private final Target second;
    private final List<Change> changes = new ArrayList<>();
    private final Map<String, String> remembered = new HashMap<>();

    Script(Map<String, String> fixtures, Supplier<Object> maker) {
        this.fixtures = fixtures;
        this.target = new Target(maker.get());
        this.second = new Target(maker.get());
    }

    /** Runs the statements, and looks afterwards at what only a second object can tell. */
    void runAll(String statements) {
        run(statements);
        compareWithSecond();
        Checks.due("calls, at most", Math.max(Target.MOST_CALLS, target.calls()),
                Target.MOST_CALLS);
    }

    private void run(String statements) {
        for (String statement : parts(statements)) {
            runOne(statement);
        }
    }

    /** The statements of a text; a semicolon between quotation marks ends none. */
    private static List<String> parts(String statements) {
        List<String> parts = new ArrayList<>();
        StringBuilder part = new StringBuilder();
        boolean quoted = false;
        for (char sign : (statements + ";").toCharArray()) {
            quoted ^= sign == '"';
            if (sign == ';' && !quoted) {
                String whole = part.toString().strip();
                if (!whole.isEmpty()) {
                    parts.add(whole);
                }
                part.setLength(0);
            } else {
                part.append(sign);
            }
        }
        return parts;
    }

    private void runOne(String statement) {
        int space = (statement + " ").indexOf(' ');
        String word = statement.substring(0, space);
        String rest = statement.substring(space).strip();
        switch (word) {
            case "use" -> run(fixture(rest));
            case "text" -> putText(unquoted(rest));
            case "outline" -> Checks.same("outline", outline(), unquoted(rest));
            case "digest" -> Checks.same(statement, target.answer("digest"), hash(rest));
            case "remember" -> remembered.put(rest, target.answer("digest"));
            case "same" -> Checks.same(statement, target.answer("digest"), remembered.get(rest));
            case "for" -> runLoop(statement);
            default -> runCall(statement, 0, 0, 1);
        }
    }

    private String fixture(String name) {
        if (!fixtures.containsKey(name)) {
            throw new IllegalArgumentException("there is no fixture " + name);
        }
        return fixtures.get(name);
    }

    private static String unquoted(String text) {
        return text.substring(1, text.length() - 1);
    }

    private void putText(String text) {
        make("clearText", List.of());
        for (char sign : text.toCharArray()) {
            make("append", List.of((int) sign));
        }
    }

    private String outline() {
        StringBuilder outline = new StringBuilder();
        for (int i = 0; i < 200; i++) {
            int sign = Integer.parseInt(target.answer("outline", List.of(i)));
            if (sign == SectionDesk.NONE) {
                break;
            }
            outline.append((char) sign);
        }
        return outline.toString();
    }

    private static String hash(String values) {
        long hash = 2857;
        for (String value : values.split("\\s+")) {
            int star = value.indexOf('*');
            int times = star < 0 ? 1 : Integer.parseInt(value.substring(star + 1));
            for (int i = 0; i < times; i++) {
                hash = 31 * hash + Integer.parseInt(star < 0 ? value : value.substring(0, star));
            }
        }
        return Long.toString(hash);
    }

    private void runLoop(String statement) {
        Matcher loop = LOOP.matcher(statement);
        if (!loop.matches()) {
            throw new IllegalArgumentException(statement);
        }
        int from = Integer.parseInt(loop.group(1));
        int to = Integer.parseInt(loop.group(2));
        for (int count = from; count <= to; count++) {
            runCall(loop.group(3), count, count - from, to - from + 1);
        }
    }

    private void runCall(String statement, int count, int index, int calls) {
        Matcher call = CALL.matcher(statement);
        if (!call.matches() || !target.has(call.group(1))) {
            throw new IllegalArgumentException(statement);
        }
        List<Object> arguments = new ArrayList<>();
        for (String argument : call.group(2).split(", *")) {
            if (argument.equals("true") || argument.equals("false")) {
                arguments.add(argument.equals("true"));
            } else if (!argument.isEmpty()) {
                arguments.add(number(argument, count));
            }
        }
        String due = call.group(3);
        boolean refused = due != null && (due.startsWith("throws ")
                || call.group(1).equals("carryOut") && due.startsWith("-"));
        String got = refused
                ? makeRefused(call.group(1), arguments) : make(call.group(1), arguments);
        String told = call.group(1) + arguments;
        if (due != null) {
            Checks.same(told, got, answerDue(due, count, index, calls));
        } else if (got.startsWith("throws ")) {
            Checks.fail(told + " " + got);
        }
    }

    /** Of several answers each call of a loop has its own. */
    private static String answerDue(String due, int count, int index, int calls) {
        if (due.matches("throws \\w+")) {
            return due;
        }
        String[] answers = due.split(" ");
        if (answers.length != 1 && answers.length != calls) {
            throw new IllegalArgumentException(due);
        }
        String answer = answers[answers.length == 1 ? 0 : index];
        int slash = answer.indexOf('/');
        if (slash < 0) {
            return Integer.toString(number(answer, count));
        }
        float above = Integer.parseInt(answer.substring(0, slash));
        float below = Integer.parseInt(answer.substring(slash + 1));
        return Integer.toString(Float.floatToIntBits(above / below));
    }

    private static int number(String text, int count) {
        Matcher counted = COUNTED.matcher(text);
        if (counted.matches()) {
            int more = counted.group(2) == null ? 0 : Integer.parseInt(counted.group(2));
            return "-".equals(counted.group(1)) ? count - more : count + more;
        }
        return text.equals("NONE") ? SectionDesk.NONE : Integer.parseInt(text);
    }

    private String make(String name, List<Object> arguments) {
        String got = target.answer(name, arguments);
        boolean failed = got.startsWith("throws ") || name.equals("carryOut") && got.startsWith("-");
        if (!failed && !QUERIES.contains(name)) {
            changes.add(new Change(name, arguments));
        }
        return got;
    }

    private String makeRefused(String name, List<Object> arguments) {
        String before = target.answer("digest");
        String got = make(name, arguments);
        Checks.same("digest() after " + name + arguments, target.answer("digest"), before);
        return got;
    }

    private void compareWithSecond() {
        for (Change change : changes) {
            second.answer(change.name(), change.arguments());
        }
        compareBoth("digest");
        compareBoth("carryOut");
        compareBoth("digest");
        for (int i = 0; i < 5; i++) {
            compareBoth("undo");
            compareBoth("digest");
        }
    }

    private void compareBoth(String name) {
        Checks.same(name + "() at the end", target.answer(name), second.answer(name));
    }
}
