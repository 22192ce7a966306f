import java.io.IOException;
import java.lang.reflect.Constructor;
import java.lang.reflect.Field;
import java.lang.reflect.Method;
import java.lang.reflect.Modifier;
import java.nio.file.Files;
import java.nio.file.Path;
import java.util.Arrays;
import java.util.List;
import java.util.TreeSet;
import java.util.stream.Collectors;

/** What of ../shared/LANGUAGE.md can be seen from the class and from its text. */
final class LanguageTest {
    private static final String[] FACE = {"int addSection(int) IOOB ISE",
        "int removeSection(int) IOOB IAE ISE", "int moveSection(int,int) IOOB IAE ISE",
        "int sections()", "int section(int,int) IOOB IAE", "int child(int,int) IOOB",
        "int line(int,int) IOOB", "int write(int,int,int) IOOB IAE ISE",
        "int request(int,int,int,boolean) IOOB IAE ISE", "int cancel(int) IOOB ISE",
        "int renew(int,int) IOOB IAE ISE", "int breakUp(int) IOOB ISE", "int discard(int) IOOB",
        "int edit(int,int,int,int) IOOB IAE ISE", "int copied(int,int,int,boolean) IOOB",
        "int conflicts(int) IOOB", "int giveBack(int,int) IOOB IAE ISE",
        "int checkOut(int,int) IOOB IAE", "int holders(int) IOOB", "int ifBroken(int) IOOB",
        "int grantedAt(int) IOOB ISE", "int waitsFor(int) IOOB ISE", "int entries()",
        "int entry(int,int) IOOB IAE", "int blame(int,int) IOOB",
        "int lineAt(int,int,int) IOOB IAE", "int revert(int,int) IOOB IAE ISE", "int waiting()",
        "int waitingAt(int,int) IOOB IAE", "int pass(int) IAE", "int useBits(int) IOOB",
        "int append(int) IAE ISE", "int clearText()", "int carryOut()", "int outline(int) IAE",
        "int undo() ISE", "long digest()"};

    private LanguageTest() {
    }

    public static void main(String[] args) {
        Checks.test("rule 1: the face", LanguageTest::face);
        Checks.test("rule 1: nothing else can be seen", LanguageTest::nothingElse);
        Checks.test("rules 5 and 11: the fields", LanguageTest::fields);
        Checks.test("rules 3, 4 and 6: words that may not stand in the text", LanguageTest::words);
        Checks.test("rule 11: short methods", LanguageTest::shortMethods);
        Checks.finish();
    }

    private static void face() {
        TreeSet<String> got = new TreeSet<>();
        for (Method method : SectionDesk.class.getDeclaredMethods()) {
            if (Modifier.isPublic(method.getModifiers())) {
                got.add(signature(method));
            }
        }
        Checks.same("the face", String.join("; ", got),
                String.join("; ", new TreeSet<>(List.of(FACE))));
        Checks.due("final", SectionDesk.class.getModifiers(), Modifier.PUBLIC | Modifier.FINAL);
    }

    private static String signature(Method method) {
        String types = Arrays.stream(method.getParameterTypes()).map(Class::getName)
                .collect(Collectors.joining(","));
        StringBuilder text = new StringBuilder(method.getReturnType().getName());
        text.append(' ').append(method.getName()).append('(').append(types).append(')');
        for (Class<?> kind : method.getExceptionTypes()) {
            text.append(' ').append(kind == IndexOutOfBoundsException.class ? "IOOB"
                    : kind == IllegalArgumentException.class ? "IAE"
                    : kind == IllegalStateException.class ? "ISE" : kind.getName());
        }
        return text.toString();
    }

    private static void nothingElse() {
        TreeSet<String> names = new TreeSet<>();
        for (String method : FACE) {
            names.add(method.substring(method.indexOf(' ') + 1, method.indexOf('(')));
        }
        for (Method method : SectionDesk.class.getDeclaredMethods()) {
            boolean inFace = Modifier.isPublic(method.getModifiers());
            boolean hidden = Modifier.isPrivate(method.getModifiers())
                    && !names.contains(method.getName());
            Checks.due(method.toString(), inFace || hidden ? 1 : 0, 1);
        }
        for (Class<?> inside : SectionDesk.class.getDeclaredClasses()) {
            Checks.due(inside + " is static", inside.getModifiers() & Modifier.STATIC,
                    Modifier.STATIC);
            for (Method method : inside.getDeclaredMethods()) {
                Checks.due(method.toString(), names.contains(method.getName()) ? 1 : 0, 0);
            }
        }
        Constructor<?>[] constructors = SectionDesk.class.getDeclaredConstructors();
        Checks.due("constructors", constructors.length, 1);
        Checks.due("classes inside", Math.min(12, SectionDesk.class.getDeclaredClasses().length),
                SectionDesk.class.getDeclaredClasses().length);
    }

    private static void fields() {
        checkFields(SectionDesk.class);
        for (Class<?> inside : SectionDesk.class.getDeclaredClasses()) {
            checkFields(inside);
        }
    }

    private static void checkFields(Class<?> of) {
        int own = 0;
        for (Field field : of.getDeclaredFields()) {
            int is = field.getModifiers();
            own += Modifier.isStatic(is) ? 0 : 1;
            boolean constant = !Modifier.isStatic(is) || Modifier.isFinal(is);
            boolean open = of == SectionDesk.class && field.getName().equals("NONE");
            Checks.due(field + " is a constant", constant ? 1 : 0, 1);
            Checks.due(field + " is private", Modifier.isPrivate(is) || open ? 1 : 0, 1);
        }
        Checks.due("fields of " + of, Math.min(20, own), own);
    }

    private static List<String> program() {
        try {
            return Files.readAllLines(Path.of("src/main/java/SectionDesk.java"));
        } catch (IOException missing) {
            throw new IllegalStateException(missing);
        }
    }

    /** The text without its comments and without the texts of its exceptions. */
    private static String code() {
        return String.join("\n", program()).replaceAll("(?s)/\\*.*?\\*/", "")
                .replaceAll("//[^\n]*", "").replaceAll("\"[^\"\n]*\"", "\"\"");
    }

    private static void words() {
        String code = code();
        String[] forbidden = {"->", "::", "\\bFloat\\b", "\\bDouble\\b", "\\bLong\\b", "Exact\\b",
            "\\bfinally\\b", "\\bcatch\\b", "\\bassert\\b", "\\bsynchronized\\b", "\\bvar\\b",
            "\\bpackage\\b", "static \\{", "\\bprotected\\b", "hashCode", "toString", "\\bRandom\\b",
            "\\bThread\\b", "\\bObject\\b", "[^\\x00-\\x7f]", "System\\.(?!arraycopy\\b)",
            "Arrays\\.(?!fill\\b|copyOf\\b|copyOfRange\\b)", "Math\\.(?!min\\b|max\\b|abs\\b)",
            "Integer\\.(?!bitCount\\b)", "import (?!java\\.util\\.Arrays;)", "\\bwhile\\b"};
        for (String word : forbidden) {
            java.util.regex.Matcher found = java.util.regex.Pattern.compile(word).matcher(code);
            if (found.find()) {
                Checks.fail("the program has " + found.group());
            }
        }
    }

    private static void shortMethods() {
        int begin = 0;
        List<String> lines = program();
        for (int i = 0; i < lines.size(); i++) {
            String line = lines.get(i);
            Checks.due("columns of line " + (i + 1), Math.max(100, line.length()), 100);
            boolean opens = line.matches("(    ){1,2}[a-z].*\\) (throws .*)?\\{")
                    || line.matches("(    ){3,4}throws .*\\{");
            if (opens) {
                begin = i;
            } else if (line.matches("(    ){1,2}\\}") && begin > 0) {
                Checks.due("lines of the method that ends in " + (i + 1),
                        Math.max(60, i - begin), 60);
                begin = 0;
            }
        }
    }
}
