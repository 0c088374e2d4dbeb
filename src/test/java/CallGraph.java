import com.sun.source.tree.ClassTree;
import com.sun.source.tree.MethodInvocationTree;
import com.sun.source.tree.MethodTree;
import com.sun.source.tree.NewClassTree;
import com.sun.source.tree.VariableTree;
import com.sun.source.util.JavacTask;
import com.sun.source.util.TreePathScanner;
import com.sun.source.util.Trees;
import java.io.IOException;
import java.nio.file.Path;
import java.util.ArrayDeque;
import java.util.Deque;
import java.util.HashMap;
import java.util.List;
import java.util.Map;
import java.util.Set;
import java.util.TreeMap;
import java.util.TreeSet;
import javax.lang.model.element.Element;
import javax.lang.model.element.ElementKind;
import javax.tools.JavaCompiler;
import javax.tools.StandardJavaFileManager;
import javax.tools.ToolProvider;

/** Which method of a file calls which, as the compiler reads them; a class's first values belong to its constructor. */
final class CallGraph {
    private final Map<String, Set<String>> calls = new TreeMap<>();
    private final Map<String, Integer> depths = new HashMap<>();
    private final Deque<String> open = new ArrayDeque<>();
    private boolean recursion = false;

    CallGraph(Path file) throws IOException {
        JavaCompiler compiler = ToolProvider.getSystemJavaCompiler();
        try (StandardJavaFileManager files = compiler.getStandardFileManager(null, null, null)) {
            JavacTask task = (JavacTask) compiler.getTask(null, files, null, List.of("-proc:none"), null,
                files.getJavaFileObjects(file));
            Iterable<? extends com.sun.source.tree.CompilationUnitTree> units = task.parse();
            task.analyze();
            new Reader(Trees.instance(task)).scan(units, null);
        }
    }

    /** The methods that are called, but are not in the file. */
    Set<String> library() {
        Set<String> outside = new TreeSet<>();
        calls.values().forEach(outside::addAll);
        outside.removeAll(calls.keySet());
        return outside;
    }

    boolean hasRecursion() {
        calls.keySet().forEach(this::depth);
        return recursion;
    }

    /** The most calls that stand open at once, those of the library counted as one each. */
    int deepest() {
        return calls.keySet().stream().mapToInt(this::depth).max().orElse(0);
    }

    private int depth(String method) {
        if (depths.containsKey(method)) {
            return depths.get(method);
        }
        if (open.contains(method)) {
            recursion = true;
            return 0;
        }
        open.push(method);
        int below = 0;
        for (String called : calls.getOrDefault(method, Set.of())) {
            below = Math.max(below, depth(called));
        }
        open.pop();
        depths.put(method, below + 1);
        return below + 1;
    }

    private final class Reader extends TreePathScanner<Void, Void> {
        private final Trees trees;
        private String caller = null;

        Reader(Trees trees) {
            this.trees = trees;
        }

        private String name(Element method) {
            boolean makes = method.getKind() == ElementKind.CONSTRUCTOR;
            return method.getEnclosingElement() + "." + (makes ? "new" : method.toString());
        }

        private void note() {
            calls.get(caller).add(name(trees.getElement(getCurrentPath())));
        }

        private void enter(String method) {
            caller = method;
            calls.computeIfAbsent(method, m -> new TreeSet<>());
        }

        @Override
        public Void visitMethod(MethodTree tree, Void nothing) {
            enter(name(trees.getElement(getCurrentPath())));
            return super.visitMethod(tree, nothing);
        }

        @Override
        public Void visitVariable(VariableTree tree, Void nothing) {
            if (getCurrentPath().getParentPath().getLeaf() instanceof ClassTree) {
                enter(trees.getElement(getCurrentPath()).getEnclosingElement() + ".new");
            }
            return super.visitVariable(tree, nothing);
        }

        @Override
        public Void visitMethodInvocation(MethodInvocationTree tree, Void nothing) {
            note();
            return super.visitMethodInvocation(tree, nothing);
        }

        @Override
        public Void visitNewClass(NewClassTree tree, Void nothing) {
            note();
            return super.visitNewClass(tree, nothing);
        }
    }
}
