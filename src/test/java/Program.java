import com.sun.source.tree.BinaryTree;
import com.sun.source.tree.ClassTree;
import com.sun.source.tree.CompilationUnitTree;
import com.sun.source.tree.ForLoopTree;
import com.sun.source.tree.MethodInvocationTree;
import com.sun.source.tree.MethodTree;
import com.sun.source.tree.NewArrayTree;
import com.sun.source.tree.NewClassTree;
import com.sun.source.tree.Tree;
import com.sun.source.tree.VariableTree;
import com.sun.source.util.JavacTask;
import com.sun.source.util.TreePathScanner;
import com.sun.source.util.Trees;
import java.io.IOException;
import java.nio.file.Path;
import java.util.ArrayList;
import java.util.List;
import java.util.Map;
import java.util.Set;
import java.util.TreeMap;
import java.util.TreeSet;
import java.util.stream.Collectors;
import javax.lang.model.element.Element;
import javax.lang.model.element.Modifier;
import javax.tools.JavaCompiler;
import javax.tools.StandardJavaFileManager;
import javax.tools.ToolProvider;

/** The program as the compiler reads it: what its methods are, call and make. */
final class Program extends TreePathScanner<Void, Void> {
    static final Path FILE = Path.of("src/main/java/SectionDesk.java");

    /** All kinds of constructs that stand in the program. */
    final Set<String> kinds = new TreeSet<>();
    /** For each method (with its class) those that it calls. */
    final Map<String, Set<String>> calls = new TreeMap<>();
    final Set<String> libraryCalls = new TreeSet<>();
    /** The public members of the class, as the document writes them. */
    final List<String> face = new ArrayList<>();
    /** What is made elsewhere than in constructors, in fields and behind a throw. */
    final List<String> made = new ArrayList<>();
    final List<String> openLoops = new ArrayList<>();
    final List<String> joinedTexts = new ArrayList<>();
    int mostParameters;
    int mostLines;

    private final Trees trees;
    private final CompilationUnitTree unit;
    private String method = "";
    private boolean constructing = true;

    private Program(Trees trees, CompilationUnitTree unit) {
        this.trees = trees;
        this.unit = unit;
    }

    static Program read() {
        JavaCompiler compiler = ToolProvider.getSystemJavaCompiler();
        try (StandardJavaFileManager files = compiler.getStandardFileManager(null, null, null)) {
            JavacTask task = (JavacTask) compiler.getTask(null, files, null,
                    List.of("-proc:none"), null, files.getJavaFileObjects(FILE));
            CompilationUnitTree unit = task.parse().iterator().next();
            task.analyze();
            Program program = new Program(Trees.instance(task), unit);
            program.scan(unit, null);
            return program;
        } catch (IOException missing) {
            throw new IllegalStateException(missing);
        }
    }

    private Element element() {
        return trees.getElement(getCurrentPath());
    }

    private static String nameOf(Element called) {
        return called.getEnclosingElement() + "." + called;
    }

    private long lineAt(long position) {
        return unit.getLineMap().getLineNumber(position);
    }

    private String place(Tree tree) {
        long start = trees.getSourcePositions().getStartPosition(unit, tree);
        return "line " + lineAt(start) + ": " + tree;
    }

    @Override
    public Void scan(Tree tree, Void nothing) {
        if (tree != null) {
            kinds.add(tree.getKind().name());
        }
        return super.scan(tree, nothing);
    }

    @Override
    public Void visitClass(ClassTree tree, Void nothing) {
        if (element().getSimpleName().contentEquals("SectionDesk")) {
            face.add("public final class " + tree.getSimpleName() + " {");
        }
        return super.visitClass(tree, nothing);
    }

    @Override
    public Void visitVariable(VariableTree tree, Void nothing) {
        if (element().getModifiers().contains(Modifier.PUBLIC)) {
            face.add("public static final " + tree.getType() + " " + tree.getName() + " = "
                    + tree.getInitializer() + ";");
        }
        return super.visitVariable(tree, nothing);
    }

    @Override
    public Void visitMethod(MethodTree tree, Void nothing) {
        Element element = element();
        method = nameOf(element);
        constructing = tree.getReturnType() == null;
        calls.put(method, new TreeSet<>());
        mostParameters = Math.max(mostParameters, tree.getParameters().size());
        long start = trees.getSourcePositions().getStartPosition(unit, tree);
        long end = trees.getSourcePositions().getEndPosition(unit, tree);
        mostLines = Math.max(mostLines, end < 0 ? 1 : (int) (lineAt(end) - lineAt(start)) + 1);
        if (element.getModifiers().contains(Modifier.PUBLIC)) {
            face.add("public " + signature(tree, element) + ";");
        }
        super.visitMethod(tree, nothing);
        method = "";
        constructing = true;
        return null;
    }

    private static String signature(MethodTree tree, Element element) {
        String name = tree.getReturnType() == null
                ? element.getEnclosingElement().toString() : tree.getReturnType() + " " + tree.getName();
        String parameters = tree.getParameters().stream()
                .map(one -> one.getType() + " " + one.getName()).collect(Collectors.joining(", "));
        String thrown = tree.getThrows().stream()
                .map(Tree::toString).collect(Collectors.joining(", "));
        return name + "(" + parameters + ")" + (thrown.isEmpty() ? "" : " throws " + thrown);
    }

    @Override
    public Void visitMethodInvocation(MethodInvocationTree tree, Void nothing) {
        String called = nameOf(element());
        if (called.startsWith("SectionDesk.")) {
            calls.get(method).add(called);
        } else if (!called.equals("java.lang.Object.Object()")) {
            libraryCalls.add(called.substring(0, called.indexOf('(')));
        }
        return super.visitMethodInvocation(tree, nothing);
    }

    @Override
    public Void visitNewClass(NewClassTree tree, Void nothing) {
        boolean thrown = getCurrentPath().getParentPath().getLeaf().getKind() == Tree.Kind.THROW;
        if (!constructing && !thrown) {
            made.add(place(tree));
        }
        return super.visitNewClass(tree, nothing);
    }

    @Override
    public Void visitNewArray(NewArrayTree tree, Void nothing) {
        if (!constructing) {
            made.add(place(tree));
        }
        return super.visitNewArray(tree, nothing);
    }

    @Override
    public Void visitForLoop(ForLoopTree tree, Void nothing) {
        if (tree.getCondition() == null || tree.getUpdate().isEmpty()) {
            openLoops.add(place(tree));
        }
        return super.visitForLoop(tree, nothing);
    }

    @Override
    public Void visitBinary(BinaryTree tree, Void nothing) {
        String type = String.valueOf(trees.getTypeMirror(getCurrentPath()));
        if (type.equals("java.lang.String")) {
            joinedTexts.add(place(tree));
        }
        return super.visitBinary(tree, nothing);
    }

    /** The longest chain of calls that begins with a method; one that calls itself counts once. */
    List<String> longestChain(String from, List<String> open) {
        List<String> chain = new ArrayList<>(open);
        chain.add(from);
        List<String> longest = chain;
        for (String next : calls.getOrDefault(from, Set.of())) {
            if (next.equals(from)) {
                continue;
            }
            if (chain.contains(next)) {
                throw new IllegalStateException(next + " is called back through " + chain);
            }
            List<String> found = longestChain(next, chain);
            longest = found.size() > longest.size() ? found : longest;
        }
        return longest;
    }
}
