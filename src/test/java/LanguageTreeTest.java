import com.sun.source.tree.BinaryTree;
import com.sun.source.tree.ClassTree;
import com.sun.source.tree.CompilationUnitTree;
import com.sun.source.tree.CompoundAssignmentTree;
import com.sun.source.tree.MethodInvocationTree;
import com.sun.source.tree.MethodTree;
import com.sun.source.tree.NewClassTree;
import com.sun.source.tree.ThrowTree;
import com.sun.source.tree.Tree;
import com.sun.source.tree.VariableTree;
import com.sun.source.util.JavacTask;
import com.sun.source.util.TreePathScanner;
import com.sun.source.util.Trees;
import java.nio.file.Path;
import java.util.ArrayDeque;
import java.util.Deque;
import java.util.List;
import java.util.Map;
import java.util.Set;
import java.util.TreeMap;
import java.util.TreeSet;
import javax.lang.model.element.Element;
import javax.lang.model.element.ExecutableElement;
import javax.lang.model.element.Modifier;
import javax.tools.JavaCompiler;
import javax.tools.StandardJavaFileManager;
import javax.tools.ToolProvider;

/** The rules of LANGUAGE.md that need the compiler's own reading: what is called, how deep, how much. */
public final class LanguageTreeTest extends TreePathScanner<Void, String> {
    private static final Path PROGRAM = Path.of("src/main/java/Tokenwalk.java");
    /** By class what may be called: any of that name, or just one with these parameters. */
    private static final Map<String, String> LIBRARY = Map.ofEntries(
        Map.entry("java.lang.Object", "<init>"),
        Map.entry("java.lang.Enum", "<init>"),
        Map.entry("java.lang.Record", "<init>"),
        Map.entry("java.lang.String", "length charAt isEmpty equals indexOf(int) substring toCharArray String(char[])"),
        Map.entry("java.lang.StringBuilder", "<init> append(char) append(java.lang.String) append(int) charAt"
            + " setCharAt setLength deleteCharAt reverse length toString"),
        Map.entry("java.lang.System", "arraycopy"),
        Map.entry("java.lang.Comparable", "compareTo"),
        Map.entry("java.lang.Iterable", "iterator"),
        Map.entry("java.util.Iterator", "hasNext next"),
        Map.entry("java.util.Arrays", "copyOf copyOfRange fill"),
        Map.entry("java.util.ArrayList", "<init> add get set remove(int) size isEmpty clear"),
        Map.entry("java.util.List", "add get set remove(int) size isEmpty clear of"),
        Map.entry("Array", "clone"));
    private static final Set<String> ANY_NUMBER_FUNCTION = Set.of("java.lang.Integer", "java.lang.Long", "java.lang.Math");
    private static final Set<String> THROWN = Set.of("java.lang.IllegalStateException",
        "java.lang.IllegalArgumentException", "java.lang.IndexOutOfBoundsException", "java.lang.ArithmeticException",
        "java.lang.UnsupportedOperationException", "java.util.NoSuchElementException", "java.lang.RuntimeException");
    private static final int DEEPEST = 8;
    private static final int MOST_PARAMETERS = 7;
    private static final int MOST_LINES = 60;
    private static final int MOST_CLASSES = 12;
    private static final int MOST_FIELDS = 20;

    private final Trees trees;
    private final CompilationUnitTree unit;
    private final Map<String, Set<String>> calls = new TreeMap<>();
    private int classes;
    private int wrong;

    private LanguageTreeTest(Trees trees, CompilationUnitTree unit) {
        this.trees = trees;
        this.unit = unit;
    }

    public static void main(String[] args) throws Exception {
        JavaCompiler compiler = ToolProvider.getSystemJavaCompiler();
        try (StandardJavaFileManager files = compiler.getStandardFileManager(null, null, null)) {
            JavacTask task = (JavacTask) compiler.getTask(null, files, null, List.of("-proc:none"), null,
                files.getJavaFileObjects(PROGRAM));
            CompilationUnitTree unit = task.parse().iterator().next();
            task.analyze();
            LanguageTreeTest test = new LanguageTreeTest(Trees.instance(task), unit);
            test.scan(unit, "");
            test.finish();
        }
    }

    private void finish() {
        check(classes <= MOST_CLASSES, 11, "there are " + classes + " classes");
        int deepest = 0;
        for (String method : calls.keySet()) {
            int depth = depth(method, new ArrayDeque<>());
            check(depth <= DEEPEST, 11, method + " calls " + depth + " deep");
            deepest = Math.max(deepest, depth);
        }
        // without any, this reading itself would be broken
        check(deepest > 1, 11, "no call was found");
        System.out.println("LanguageTreeTest: " + (wrong == 0 ? "no rule is broken; calls go " + deepest + " deep"
            : wrong + " faults"));
        if (wrong != 0) {
            System.exit(1);
        }
    }

    private void check(boolean holds, int rule, String fault) {
        if (!holds) {
            wrong++;
            System.out.println("breaks rule " + rule + ": " + fault);
        }
    }

    // ---- classes and their members

    @Override
    public Void visitClass(ClassTree type, String method) {
        classes++;
        int fields = 0;
        for (Tree member : type.getMembers()) {
            if (member instanceof VariableTree) {
                Set<Modifier> is = ((VariableTree) member).getModifiers().getFlags();
                check(!is.contains(Modifier.STATIC) || is.contains(Modifier.FINAL), 5, "static, not final: " + member);
                fields += is.contains(Modifier.STATIC) ? 0 : 1;
            }
        }
        check(fields <= MOST_FIELDS, 11, type.getSimpleName() + " has " + fields + " fields");
        return super.visitClass(type, method);
    }

    @Override
    public Void visitMethod(MethodTree declared, String method) {
        String name = name(trees.getElement(getCurrentPath()));
        calls.computeIfAbsent(name, none -> new TreeSet<>());
        long lines = line(trees.getSourcePositions().getEndPosition(unit, declared))
            - line(trees.getSourcePositions().getStartPosition(unit, declared)) + 1;
        check(lines <= MOST_LINES, 11, name + " has " + lines + " lines");
        check(declared.getParameters().size() <= MOST_PARAMETERS, 11, name + " takes too many");
        return super.visitMethod(declared, name);
    }

    private long line(long position) {
        return unit.getLineMap().getLineNumber(position);
    }

    // ---- what is called

    @Override
    public Void visitMethodInvocation(MethodInvocationTree call, String method) {
        called((ExecutableElement) trees.getElement(getCurrentPath()), method);
        return super.visitMethodInvocation(call, method);
    }

    @Override
    public Void visitNewClass(NewClassTree made, String method) {
        called((ExecutableElement) trees.getElement(getCurrentPath()), method);
        return super.visitNewClass(made, method);
    }

    private void called(ExecutableElement call, String method) {
        String owner = call.getEnclosingElement().toString();
        String simple = call.getSimpleName().toString();
        if (owner.startsWith("Tokenwalk")) {
            calls.computeIfAbsent(method, none -> new TreeSet<>()).add(name(call));
        } else if (ANY_NUMBER_FUNCTION.contains(owner)) {
            check(!simple.endsWith("Exact") && call.getModifiers().contains(Modifier.STATIC), 4, owner + "." + call);
        } else if (!THROWN.contains(owner) || !simple.equals("<init>")) {
            List<String> listed = List.of(LIBRARY.getOrDefault(owner, "").split(" "));
            check(listed.contains(simple) || listed.contains(call.toString()), 4, owner + "." + call);
        }
    }

    private static String name(Element method) {
        return method.getEnclosingElement().getSimpleName() + "." + method.getSimpleName();
    }

    /** How many calls stand open at most, this one too; one that stands open already is recursion. */
    private int depth(String method, Deque<String> open) {
        int deepest = 0;
        open.push(method);
        for (String next : calls.getOrDefault(method, Set.of())) {
            if (!open.contains(next)) {
                deepest = Math.max(deepest, depth(next, open));
            }
        }
        open.pop();
        return deepest + 1;
    }

    // ---- what stands in methods

    @Override
    public Void visitThrow(ThrowTree thrown, String method) {
        check(!method.endsWith("<init>"), 6, "a constructor throws: " + method);
        return super.visitThrow(thrown, method);
    }

    @Override
    public Void visitBinary(BinaryTree sum, String method) {
        checkNoJoin(method);
        return super.visitBinary(sum, method);
    }

    @Override
    public Void visitCompoundAssignment(CompoundAssignmentTree sum, String method) {
        checkNoJoin(method);
        return super.visitCompoundAssignment(sum, method);
    }

    private void checkNoJoin(String method) {
        check(!trees.getTypeMirror(getCurrentPath()).toString().equals("java.lang.String"), 10,
            "joins texts by +: " + method);
    }
}
