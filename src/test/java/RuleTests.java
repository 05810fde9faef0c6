import com.sun.source.tree.CompilationUnitTree;
import com.sun.source.tree.LineMap;
import com.sun.source.tree.MethodInvocationTree;
import com.sun.source.tree.MethodTree;
import com.sun.source.tree.NewArrayTree;
import com.sun.source.tree.NewClassTree;
import com.sun.source.tree.Tree;
import com.sun.source.util.JavacTask;
import com.sun.source.util.TreePathScanner;
import com.sun.source.util.Trees;
import java.io.IOException;
import java.nio.file.Path;
import java.util.EnumSet;
import java.util.List;
import java.util.Map;
import java.util.Set;
import java.util.TreeMap;
import java.util.TreeSet;
import javax.lang.model.element.Element;
import javax.lang.model.element.ElementKind;
import javax.tools.JavaCompiler;
import javax.tools.StandardJavaFileManager;
import javax.tools.ToolProvider;

/** The rules of LANGUAGE.md that words alone do not show: the class is looked at as the compiler sees it. */
public final class RuleTests {
    private static final Path FILE = Path.of("src/main/java/SortTransform.java");
    private static final int DEEPEST = 8;
    private static final int MOST_LINES = 60;
    private static final Set<String> LIBRARY = Set.of("java.lang.Math.max(int,int)", "java.lang.Math.min(int,int)",
            "java.lang.Object.Object()", "java.util.Arrays.fill(int[],int)",
            "java.lang.System.arraycopy(java.lang.Object,int,java.lang.Object,int,int)");
    private static final Set<Tree.Kind> RULED_OUT = EnumSet.of(Tree.Kind.LAMBDA_EXPRESSION, Tree.Kind.MEMBER_REFERENCE,
            Tree.Kind.THROW, Tree.Kind.TRY, Tree.Kind.CATCH, Tree.Kind.SYNCHRONIZED, Tree.Kind.ASSERT,
            Tree.Kind.DOUBLE_LITERAL, Tree.Kind.FLOAT_LITERAL);
    private final Due due = new Due();
    private final Map<String, Set<String>> calls = new TreeMap<>();
    private final Map<String, Integer> depths = new TreeMap<>();

    public static void main(String[] args) throws IOException {
        RuleTests tests = new RuleTests();
        tests.lookAtFile();
        tests.depthOfCalls();
        tests.due.end("RuleTests");
    }

    private void lookAtFile() throws IOException {
        JavaCompiler compiler = ToolProvider.getSystemJavaCompiler();
        try (StandardJavaFileManager files = compiler.getStandardFileManager(null, null, null)) {
            JavacTask task = (JavacTask) compiler.getTask(null, files, null, List.of("-proc:none"), null,
                    files.getJavaFileObjects(FILE));
            Iterable<? extends CompilationUnitTree> units = task.parse();
            task.analyze();
            for (CompilationUnitTree unit : units) {
                new Look(Trees.instance(task), unit).scan(unit, "a field");
            }
        }
    }

    /** Rules 8 and 11: no recursion, and calls at most eight deep. */
    private void depthOfCalls() {
        due.isTrue("the methods are found", calls.size() > 26);
        for (String method : calls.keySet()) {
            int depth = depthOf(method, new TreeSet<>());
            due.isTrue("rule 11: " + method + " goes " + depth + " deep", depth <= DEEPEST);
        }
    }

    private int depthOf(String method, Set<String> open) {
        if (!open.add(method)) {
            due.isTrue("rule 8: " + method + " calls itself", false);
            return 0;
        }
        if (!depths.containsKey(method)) {
            int deepest = 0;
            for (String called : calls.getOrDefault(method, Set.of())) {
                deepest = Math.max(deepest, depthOf(called, open));
            }
            depths.put(method, deepest + 1);
        }
        open.remove(method);
        return depths.get(method);
    }

    /** Goes through the file; what it carries is the method in which it is. */
    private final class Look extends TreePathScanner<Void, String> {
        private final Trees trees;
        private final CompilationUnitTree unit;

        Look(Trees trees, CompilationUnitTree unit) {
            this.trees = trees;
            this.unit = unit;
        }

        @Override
        public Void scan(Tree tree, String method) {
            if (tree != null) {
                due.isTrue("rules 2, 3, 6: no " + tree.getKind() + " in " + method, !RULED_OUT.contains(tree.getKind()));
            }
            return super.scan(tree, method);
        }

        @Override
        public Void visitMethod(MethodTree tree, String outside) {
            Element element = trees.getElement(getCurrentPath());
            String name = nameOf(element);
            calls.putIfAbsent(name, new TreeSet<>());
            long lines = linesOf(tree);
            due.isTrue("rule 11: " + name + " has " + lines + " lines", lines <= MOST_LINES);
            boolean isConstructor = element.getKind() == ElementKind.CONSTRUCTOR;
            return super.visitMethod(tree, isConstructor ? "a constructor, " + name : name);
        }

        @Override
        public Void visitMethodInvocation(MethodInvocationTree tree, String method) {
            String called = nameOf(trees.getElement(getCurrentPath()));
            if (called.startsWith("SortTransform")) {
                calls.computeIfAbsent(method, key -> new TreeSet<>()).add(called);
            } else {
                due.isTrue("rule 4: " + called + " in " + method, LIBRARY.contains(called));
            }
            return super.visitMethodInvocation(tree, method);
        }

        @Override
        public Void visitNewClass(NewClassTree tree, String method) {
            madeWithTheObject(tree, method);
            due.isTrue("rule 2: no class without a name in " + method, tree.getClassBody() == null);
            return super.visitNewClass(tree, method);
        }

        @Override
        public Void visitNewArray(NewArrayTree tree, String method) {
            madeWithTheObject(tree, method);
            return super.visitNewArray(tree, method);
        }

        /** Rule 12, and the room that all calls of a run share: what is made is made with the object. */
        private void madeWithTheObject(Tree tree, String method) {
            due.isTrue("rule 12: " + tree + " in " + method, method.startsWith("a field") || method.startsWith("a constr"));
        }

        private String nameOf(Element method) {
            return method.getEnclosingElement() + "." + method;
        }

        private long linesOf(Tree tree) {
            LineMap lines = unit.getLineMap();
            long begin = trees.getSourcePositions().getStartPosition(unit, tree);
            long end = trees.getSourcePositions().getEndPosition(unit, tree);
            return begin < 0 || end < begin ? 0 : lines.getLineNumber(end) - lines.getLineNumber(begin) + 1;
        }
    }
}
