import com.sun.source.tree.ClassTree;
import com.sun.source.tree.CompilationUnitTree;
import com.sun.source.tree.MethodInvocationTree;
import com.sun.source.tree.MethodTree;
import com.sun.source.tree.NewClassTree;
import com.sun.source.util.JavacTask;
import com.sun.source.util.TreePath;
import com.sun.source.util.TreePathScanner;
import com.sun.source.util.Trees;
import java.io.IOException;
import java.nio.file.Path;
import java.util.ArrayList;
import java.util.HashSet;
import java.util.LinkedHashMap;
import java.util.LinkedHashSet;
import java.util.List;
import java.util.Map;
import java.util.Set;
import javax.lang.model.element.Element;
import javax.lang.model.element.ElementKind;
import javax.tools.JavaCompiler;
import javax.tools.StandardJavaFileManager;
import javax.tools.ToolProvider;

/** Rules 4, 8 and 11 of LANGUAGE.md, as the compiler sees the calls of the source, whose path is the first argument. */
public final class CallsTest {
    private static final Set<String> LIBRARY = Set.of("java.lang.Math.max", "java.lang.Math.min", "java.lang.Object.<init>",
        "java.lang.System.arraycopy");
    private static final int DEEPEST = 8;

    private final Map<String, Set<String>> callsOf = new LinkedHashMap<>();
    private final Set<String> open = new HashSet<>();

    public static void main(String[] args) throws IOException {
        CallsTest calls = new CallsTest();
        calls.read(Path.of(args[0]));
        calls.library();
        calls.depth();
        Check.end();
    }

    private void read(Path source) throws IOException {
        JavaCompiler compiler = ToolProvider.getSystemJavaCompiler();
        try (StandardJavaFileManager files = compiler.getStandardFileManager(null, null, null)) {
            JavacTask task = (JavacTask) compiler.getTask(null, files, null, List.of("-proc:none"), null,
                files.getJavaFileObjects(source));
            List<CompilationUnitTree> units = new ArrayList<>();
            task.parse().forEach(units::add);
            task.analyze();
            for (CompilationUnitTree unit : units) {
                new Reader(Trees.instance(task)).scan(unit, null);
            }
        }
    }

    private void library() {
        for (Set<String> calls : callsOf.values()) {
            for (String call : calls) {
                boolean isKnown = callsOf.containsKey(call) || LIBRARY.contains(call);
                Check.due(call + " is of the class, or of the library that it may use", isKnown ? 1 : 0, 1);
            }
        }
    }

    private void depth() {
        for (String method : callsOf.keySet()) {
            int deep = depthOf(method);
            Check.due(method + " goes " + deep + " calls deep", deep <= DEEPEST ? 1 : 0, 1);
        }
        Check.due("methods were found", callsOf.size() > 20 ? 1 : 0, 1);
        Check.due("calls were followed", depthOf("CanalSteps.perform()") > 4 ? 1 : 0, 1);
    }

    private int depthOf(String method) {
        if (!open.add(method)) {
            Check.due(method + " comes back to itself", 1, 0);
            return 0;
        }
        int deepest = 0;
        for (String call : callsOf.getOrDefault(method, Set.of())) {
            deepest = Math.max(deepest, depthOf(call));
        }
        open.remove(method);
        return deepest + 1;
    }

    /** Notes for each method which ones it calls; what stands beside methods counts to its class. */
    private final class Reader extends TreePathScanner<Void, Void> {
        private final Trees trees;
        private String here = "";

        private Reader(Trees trees) {
            this.trees = trees;
        }

        @Override
        public Void visitClass(ClassTree tree, Void nothing) {
            return inside(trees.getElement(getCurrentPath()).toString(), () -> super.visitClass(tree, nothing));
        }

        @Override
        public Void visitMethod(MethodTree tree, Void nothing) {
            return inside(nameOf(getCurrentPath()), () -> super.visitMethod(tree, nothing));
        }

        @Override
        public Void visitMethodInvocation(MethodInvocationTree tree, Void nothing) {
            callsOf.get(here).add(nameOf(getCurrentPath()));
            return super.visitMethodInvocation(tree, nothing);
        }

        @Override
        public Void visitNewClass(NewClassTree tree, Void nothing) {
            callsOf.get(here).add(nameOf(getCurrentPath()));
            return super.visitNewClass(tree, nothing);
        }

        private Void inside(String name, Runnable scan) {
            String outer = here;
            here = name;
            callsOf.computeIfAbsent(name, n -> new LinkedHashSet<>());
            scan.run();
            here = outer;
            return null;
        }

        private String nameOf(TreePath path) {
            Element method = trees.getElement(path);
            String owner = method.getEnclosingElement().toString();
            boolean isConstructor = method.getKind() == ElementKind.CONSTRUCTOR;
            if (!owner.startsWith("CanalSteps")) {
                return owner + "." + method.getSimpleName();
            }
            return isConstructor ? owner + ".<init>" : owner + "." + method;
        }
    }
}
