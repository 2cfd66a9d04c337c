import com.sun.source.tree.CompilationUnitTree;
import com.sun.source.tree.MethodInvocationTree;
import com.sun.source.tree.MethodTree;
import com.sun.source.tree.NewClassTree;
import com.sun.source.util.JavacTask;
import com.sun.source.util.TreePathScanner;
import com.sun.source.util.Trees;
import java.io.IOException;
import java.nio.file.Path;
import java.util.ArrayList;
import java.util.LinkedHashMap;
import java.util.LinkedHashSet;
import java.util.List;
import java.util.Map;
import java.util.Set;
import java.util.TreeSet;
import javax.lang.model.element.Element;
import javax.lang.model.element.ElementKind;
import javax.lang.model.element.ExecutableElement;
import javax.lang.model.element.Modifier;
import javax.tools.JavaCompiler;
import javax.tools.StandardJavaFileManager;
import javax.tools.ToolProvider;

/** Which method of a file calls which, as the compiler sees it. */
final class CallTree {
    private final Map<ExecutableElement, Set<ExecutableElement>> calls = new LinkedHashMap<>();

    CallTree(Path source) throws IOException {
        JavaCompiler compiler = ToolProvider.getSystemJavaCompiler();
        try (StandardJavaFileManager files = compiler.getStandardFileManager(null, null, null)) {
            List<String> options = List.of("--release", "17", "-proc:none");
            JavacTask task = (JavacTask) compiler.getTask(null, files, null, options, null, files.getJavaFileObjects(source));
            Iterable<? extends CompilationUnitTree> units = task.parse();
            task.analyze();
            for (CompilationUnitTree unit : units) new Reader(Trees.instance(task)).scan(unit, null);
        }
    }

    private final class Reader extends TreePathScanner<Void, ExecutableElement> {
        private final Trees trees;

        private Reader(Trees trees) {
            this.trees = trees;
        }

        @Override
        public Void visitMethod(MethodTree tree, ExecutableElement around) {
            ExecutableElement method = (ExecutableElement) trees.getElement(getCurrentPath());
            calls.put(method, new LinkedHashSet<>());
            return super.visitMethod(tree, method);
        }

        @Override
        public Void visitMethodInvocation(MethodInvocationTree tree, ExecutableElement around) {
            note(around);
            return super.visitMethodInvocation(tree, around);
        }

        @Override
        public Void visitNewClass(NewClassTree tree, ExecutableElement around) {
            note(around);
            return super.visitNewClass(tree, around);
        }

        private void note(ExecutableElement around) {
            Element called = trees.getElement(getCurrentPath());
            if (around != null && called instanceof ExecutableElement method) calls.get(around).add(method);
        }
    }

    Set<ExecutableElement> methods() {
        return calls.keySet();
    }

    static String name(ExecutableElement method) {
        return method.getEnclosingElement().getSimpleName() + "." + method.getSimpleName();
    }

    static boolean isPrivateStatic(ExecutableElement method) {
        return method.getModifiers().containsAll(Set.of(Modifier.PRIVATE, Modifier.STATIC));
    }

    /** Those called that do not stand in the file. */
    Set<String> fromLibrary() {
        Set<String> names = new TreeSet<>();
        for (Set<ExecutableElement> called : calls.values()) {
            for (ExecutableElement method : called) {
                boolean ofObject = method.getKind() == ElementKind.CONSTRUCTOR && name(method).startsWith("Object.");
                if (!calls.containsKey(method) && !ofObject) names.add(name(method));
            }
        }
        return names;
    }

    /** The longest row of calls that stand open at once, with each method in it once: calls of the library count, too. */
    List<ExecutableElement> longestFrom(ExecutableElement method) {
        return longest(method, new ArrayList<>());
    }

    private List<ExecutableElement> longest(ExecutableElement method, List<ExecutableElement> open) {
        open.add(method);
        List<ExecutableElement> best = new ArrayList<>(open);
        for (ExecutableElement next : calls.getOrDefault(method, Set.of())) {
            List<ExecutableElement> row = open.contains(next) ? open : longest(next, open);
            if (row.size() > best.size()) best = row;
        }
        open.remove(open.size() - 1);
        return best;
    }

    /** Whether a method comes to be called again by what it calls. */
    boolean isRecursive(ExecutableElement method) {
        Set<ExecutableElement> met = new LinkedHashSet<>();
        List<ExecutableElement> todo = new ArrayList<>(List.of(method));
        while (!todo.isEmpty()) {
            for (ExecutableElement next : calls.getOrDefault(todo.remove(todo.size() - 1), Set.of())) {
                if (met.add(next)) todo.add(next);
            }
        }
        return met.contains(method);
    }
}
