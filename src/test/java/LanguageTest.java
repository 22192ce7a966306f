import java.lang.reflect.Constructor;
import java.lang.reflect.Field;
import java.lang.reflect.Method;
import java.lang.reflect.Modifier;
import java.util.ArrayList;
import java.util.List;
import java.util.Set;
import java.util.TreeSet;
import java.util.regex.Matcher;
import java.util.regex.Pattern;

/** What of ../shared/LANGUAGE.md can be seen from the class and from its text. */
final class LanguageTest {
    private static final Set<String> LIBRARY = Set.of("java.lang.Integer.bitCount",
            "java.lang.Math.max", "java.lang.Math.min", "java.lang.System.arraycopy",
            "java.util.Arrays.fill");
    /** Some of these the rules allow under conditions; the program does without any of them. */
    private static final Set<String> FORBIDDEN_KINDS = Set.of("LAMBDA_EXPRESSION",
            "MEMBER_REFERENCE", "TRY", "CATCH", "ASSERT", "SYNCHRONIZED", "SWITCH_EXPRESSION",
            "YIELD", "WHILE_LOOP", "DO_WHILE_LOOP", "ANNOTATION", "PACKAGE", "OTHER");
    private static final int MOST_DEEP = 8;
    private static final int MOST_CLASSES = 12;
    private static final int MOST_FIELDS = 20;
    private static final int MOST_LINES = 60;
    private static final int MOST_PARAMETERS = 7;
    private static final int MOST_COLUMNS = 100;
    /** Far below the room of a whole run, which may have other things to keep, too. */
    private static final int MOST_OBJECTS = 200;
    private static final int MOST_ELEMENTS = 30000;

    private LanguageTest() {
    }

    public static void main(String[] args) {
        Program program = Program.read();
        Checks.test("the face and the constants are those of the document",
                () -> sameLines(program.face, DocumentText.face()));
        Checks.test("the promises have the signatures of the face", LanguageTest::promises);
        Checks.test("rule 1: nothing else can be seen", LanguageTest::nothingElse);
        Checks.test("rules 5 and 11: the fields", LanguageTest::fields);
        Checks.test("rules 2, 6, 9 and 10: the constructs", () -> constructs(program));
        Checks.test("rules 3, 4 and 6: words that may not stand in the text", LanguageTest::words);
        Checks.test("rule 4: the library", () -> library(program));
        Checks.test("rules 8 and 11: how deep calls go", () -> depth(program));
        Checks.test("rule 11: short methods", () -> shortMethods(program));
        Checks.test("rule 12: only constructors make anything that is kept",
                () -> Checks.same("made", program.made.toString(), "[]"));
        Checks.test("the room of a desk", LanguageTest::room);
        Checks.finish();
    }

    /** A promise tells the name without "public", and the constructor's without "throws". */
    private static void promises() {
        List<String> face = new ArrayList<>();
        for (String line : DocumentText.face()) {
            if (line.contains("(")) {
                face.add(line.substring("public ".length(), line.length() - 1));
            }
        }
        List<String> promised = DocumentText.promised();
        Checks.due("promises", promised.size(), 38);
        sameLines(promised, face);
    }

    private static void sameLines(List<String> got, List<String> due) {
        Checks.due("lines", got.size(), due.size());
        for (int i = 0; i < got.size() && i < due.size(); i++) {
            Checks.same("line " + (i + 1), got.get(i), due.get(i));
        }
    }

    private static void nothingElse() {
        TreeSet<String> names = new TreeSet<>();
        for (Method method : SectionDesk.class.getDeclaredMethods()) {
            if (Modifier.isPublic(method.getModifiers())) {
                names.add(method.getName());
            }
        }
        for (Method method : SectionDesk.class.getDeclaredMethods()) {
            boolean inFace = Modifier.isPublic(method.getModifiers());
            boolean hidden = Modifier.isPrivate(method.getModifiers())
                    && !names.contains(method.getName());
            Checks.due(method.toString(), inFace || hidden ? 1 : 0, 1);
        }
        for (Class<?> inside : SectionDesk.class.getDeclaredClasses()) {
            int is = inside.getModifiers();
            Checks.due(inside + " is static", is & Modifier.STATIC, Modifier.STATIC);
            Checks.due(inside + " is hidden", is & (Modifier.PUBLIC | Modifier.PROTECTED), 0);
            for (Method method : inside.getDeclaredMethods()) {
                Checks.due(method.toString(), names.contains(method.getName()) ? 1 : 0, 0);
            }
        }
        Constructor<?>[] constructors = SectionDesk.class.getDeclaredConstructors();
        Checks.due("constructors", constructors.length, 1);
        atMost("classes inside", SectionDesk.class.getDeclaredClasses().length, MOST_CLASSES);
    }

    private static void fields() {
        checkFields(SectionDesk.class);
        for (Class<?> inside : SectionDesk.class.getDeclaredClasses()) {
            checkFields(inside);
        }
    }

    private static void checkFields(Class<?> of) {
        int own = 0;
        for (Field field : of.getDeclaredFields()) {
            int is = field.getModifiers();
            own += Modifier.isStatic(is) ? 0 : 1;
            boolean constant = !Modifier.isStatic(is)
                    || Modifier.isFinal(is) && field.getType().isPrimitive();
            boolean open = of == SectionDesk.class && field.getName().equals("NONE");
            Checks.due(field + " is a constant", constant ? 1 : 0, 1);
            Checks.due(field + " is private", Modifier.isPrivate(is) || open ? 1 : 0, 1);
        }
        atMost("fields of " + of, own, MOST_FIELDS);
    }

    private static void atMost(String what, long got, long most) {
        if (got > most) {
            Checks.fail(what + ": " + got + ", at most " + most + " may be");
        }
    }

    private static void constructs(Program program) {
        for (String kind : program.kinds) {
            Checks.due(kind, FORBIDDEN_KINDS.contains(kind) ? 1 : 0, 0);
        }
        Checks.same("loops without an end", program.openLoops.toString(), "[]");
        Checks.same("texts joined by +", program.joinedTexts.toString(), "[]");
    }

    /** The text without its comments and without the texts of its exceptions. */
    private static String code() {
        return String.join("\n", DocumentText.linesOf(Program.FILE))
                .replaceAll("(?s)/\\*.*?\\*/", "").replaceAll("//[^\n]*", "")
                .replaceAll("\"[^\"\n]*\"", "\"\"");
    }

    private static void words() {
        String code = code();
        String[] forbidden = {"\\bFloat\\b", "\\bDouble\\b", "\\bdouble\\b", "Exact\\b",
            "\\bfinally\\b", "\\bvar\\b", "static \\{", "\\bprotected\\b", "hashCode", "toString",
            "\\bThread\\b", "\\bObject\\b", "[^\\x00-\\x7f]", "import (?!java\\.util\\.Arrays;)",
            "new (?!Desk\\b|Tree\\b|CheckOuts\\b|Queue\\b|History\\b|SavedStates\\b|OrderText\\b"
                + "|Outline\\b|int\\[|IndexOutOfBoundsException\\(\"\"|IllegalArgumentException\\(\"\""
                + "|IllegalStateException\\(\"\")"};
        for (String word : forbidden) {
            Matcher found = Pattern.compile(word).matcher(code);
            if (found.find()) {
                Checks.fail("the program has " + found.group());
            }
        }
    }

    private static void library(Program program) {
        for (String called : program.libraryCalls) {
            Checks.due(called, LIBRARY.contains(called) ? 1 : 0, 1);
        }
    }

    private static void depth(Program program) {
        for (String method : program.calls.keySet()) {
            List<String> chain = program.longestChain(method, List.of());
            atMost("the calls of " + chain, chain.size(), MOST_DEEP);
        }
        List<String> recursive = new ArrayList<>();
        program.calls.forEach((method, called) -> {
            if (called.contains(method)) {
                recursive.add(method.replaceAll("\\(.*", ""));
            }
        });
        Checks.same("what calls itself", recursive.toString(), "[SectionDesk.Outline.putSection]");
    }

    private static void shortMethods(Program program) {
        atMost("lines of the longest method", program.mostLines, MOST_LINES);
        atMost("parameters", program.mostParameters, MOST_PARAMETERS);
        List<String> lines = DocumentText.linesOf(Program.FILE);
        for (int i = 0; i < lines.size(); i++) {
            atMost("columns of line " + (i + 1), lines.get(i).length(), MOST_COLUMNS);
        }
    }

    /** A desk is made once; what it keeps does not grow by what it is used for. */
    private static void room() {
        SectionDesk desk = new SectionDesk();
        long objects = Room.of(desk).objects();
        long elements = Room.of(desk).elements();
        atMost("objects", objects, MOST_OBJECTS);
        atMost("fields and elements", elements, MOST_ELEMENTS);
        for (int i = 1; i < 20; i++) {
            desk.addSection(i - 1);
        }
        Checks.putText(desk, "q 0 9 9 0;e 0 19 5 7;q 1 0 9 1;p 20;g 0 1;");
        for (int i = 0; i < 200; i++) {
            desk.write(10 + i % 10, i % 6, i);
            Checks.due("carryOut()", desk.carryOut(), 5);
        }
        Checks.due("objects of a used one", Room.of(desk).objects(), objects);
        Checks.due("fields and elements of a used one", Room.of(desk).elements(), elements);
    }
}
