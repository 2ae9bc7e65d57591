import com.sun.source.tree.ClassTree;
import com.sun.source.tree.CompilationUnitTree;
import com.sun.source.tree.MethodInvocationTree;
import com.sun.source.tree.MethodTree;
import com.sun.source.tree.NewClassTree;
import com.sun.source.util.JavacTask;
import com.sun.source.util.TreePathScanner;
import com.sun.source.util.Trees;
import java.io.IOException;
import java.nio.file.Path;
import java.util.ArrayDeque;
import java.util.Deque;
import java.util.HashMap;
import java.util.List;
import java.util.Map;
import java.util.Set;
import java.util.TreeMap;
import java.util.TreeSet;
import javax.lang.model.element.Element;
import javax.tools.JavaCompiler;
import javax.tools.StandardJavaFileManager;
import javax.tools.ToolProvider;

/** Rules 8 and 11 of LANGUAGE.md: which methods call themselves, and how deep the other calls go, the library's too. */
public final class CallsTest {
    private static final Path SOURCE = Path.of("src/main/java/CommaOrphans.java");
    private static final int DEEPEST = 8;
    private static final Set<String> RECURSIVE = Set.of("LawReader.readChoice", "LawReader.readClaim",
        "LawReader.readOpening");
    private static final String WAY_BACK = "LawReader.readOpening";

    private final Check check = new Check("CallsTest");
    private final Map<String, Set<String>> calls = new TreeMap<>();
    private final Map<String, Integer> depths = new HashMap<>();

    public static void main(String[] args) throws IOException {
        CallsTest test = new CallsTest();
        test.read();
        test.recursion();
        test.depth();
        test.check.close();
    }

    private void read() throws IOException {
        JavaCompiler compiler = ToolProvider.getSystemJavaCompiler();
        try (StandardJavaFileManager files = compiler.getStandardFileManager(null, null, null)) {
            JavacTask task = (JavacTask) compiler.getTask(null, files, null, List.of("-proc:none"), null,
                files.getJavaFileObjects(SOURCE));
            Iterable<? extends CompilationUnitTree> units = task.parse();
            task.analyze();
            Trees trees = Trees.instance(task);
            for (CompilationUnitTree unit : units) {
                new Reader(trees).scan(unit, null);
            }
        }
    }

    private static String nameOf(Element method) {
        return method.getEnclosingElement().getSimpleName() + "." + method.getSimpleName();
    }

    /** Notes for each method which others its lines call; what stands in a field's row belongs to the constructor. */
    private final class Reader extends TreePathScanner<Void, Void> {
        private final Trees trees;
        private final Deque<String> inside = new ArrayDeque<>();

        Reader(Trees trees) {
            this.trees = trees;
        }

        @Override
        public Void visitClass(ClassTree tree, Void none) {
            inside.push(tree.getSimpleName() + ".<init>");
            calls.computeIfAbsent(inside.peek(), k -> new TreeSet<>());
            super.visitClass(tree, none);
            inside.pop();
            return null;
        }

        @Override
        public Void visitMethod(MethodTree tree, Void none) {
            inside.push(nameOf(trees.getElement(getCurrentPath())));
            calls.computeIfAbsent(inside.peek(), k -> new TreeSet<>());
            super.visitMethod(tree, none);
            inside.pop();
            return null;
        }

        @Override
        public Void visitMethodInvocation(MethodInvocationTree tree, Void none) {
            calls.get(inside.peek()).add(nameOf(trees.getElement(getCurrentPath())));
            return super.visitMethodInvocation(tree, none);
        }

        @Override
        public Void visitNewClass(NewClassTree tree, Void none) {
            calls.get(inside.peek()).add(nameOf(trees.getElement(getCurrentPath())));
            return super.visitNewClass(tree, none);
        }
    }

    private Set<String> calledBy(String method) {
        return calls.getOrDefault(method, Set.of());
    }

    private boolean reaches(String from, String to) {
        Set<String> seen = new TreeSet<>();
        Deque<String> open = new ArrayDeque<>(calledBy(from));
        while (!open.isEmpty()) {
            String next = open.pop();
            if (seen.add(next)) {
                open.addAll(calledBy(next));
            }
        }
        return seen.contains(to);
    }

    private void recursion() {
        for (String method : calls.keySet()) {
            check.due(method + " comes back to itself", reaches(method, method), RECURSIVE.contains(method));
        }
    }

    /** How many calls stand open at most from a method on; what comes back by recursion is not counted. */
    private int depthOf(String method) {
        Integer known = depths.get(method);
        if (known != null) {
            return known;
        }
        int deepest = 0;
        for (String next : calledBy(method)) {
            deepest = Math.max(deepest, next.equals(WAY_BACK) ? 0 : depthOf(next));
        }
        depths.put(method, deepest + 1);
        return deepest + 1;
    }

    private void depth() {
        check.due("methods that were read", calls.size() > 100, true);
        for (String method : calls.keySet()) {
            int depth = depthOf(method);
            check.due(method + " calls " + depth + " deep", depth <= DEEPEST, true);
        }
    }
}
