import com.sun.source.tree.ClassTree;
import com.sun.source.tree.CompilationUnitTree;
import com.sun.source.tree.MethodInvocationTree;
import com.sun.source.tree.MethodTree;
import com.sun.source.tree.NewClassTree;
import com.sun.source.util.JavacTask;
import com.sun.source.util.TreePath;
import com.sun.source.util.TreePathScanner;
import com.sun.source.util.Trees;
import java.io.IOException;
import java.nio.file.Path;
import java.util.List;
import java.util.Map;
import java.util.Set;
import java.util.TreeMap;
import java.util.TreeSet;
import javax.lang.model.element.Element;
import javax.lang.model.element.ElementKind;
import javax.tools.JavaCompiler;
import javax.tools.StandardJavaFileManager;
import javax.tools.ToolProvider;

/**
 * Rules 8 and 11 of LANGUAGE.md, by what the compiler tells of the class: no method calls itself by way of others, and
 * calls go at most eight deep. Run from the project's folder.
 */
public final class DepthTest {
    private static final Path SOURCE = Path.of("src/main/java/Fieldgrammar.java");
    private static final int DEEPEST = 8;

    /** What each method and constructor of the class calls, by names such as Fieldgrammar.Row.with(long,int,int). */
    private static final class Calls extends TreePathScanner<Void, Void> {
        private final Map<String, Set<String>> calls = new TreeMap<>();
        private final Trees trees;
        private String caller = "";

        Calls(Trees trees) {
            this.trees = trees;
        }

        @Override
        public Void visitClass(ClassTree tree, Void none) {
            String outer = caller;
            caller = named(element()) + ".<fields>()";
            super.visitClass(tree, none);
            caller = outer;
            return null;
        }

        @Override
        public Void visitMethod(MethodTree tree, Void none) {
            String outer = caller;
            caller = named(element());
            calls.put(caller, new TreeSet<>());
            if (element().getKind() == ElementKind.CONSTRUCTOR) {
                call(named(element().getEnclosingElement()) + ".<fields>()");
            }
            super.visitMethod(tree, none);
            caller = outer;
            return null;
        }

        @Override
        public Void visitMethodInvocation(MethodInvocationTree tree, Void none) {
            call(named(element()));
            return super.visitMethodInvocation(tree, none);
        }

        @Override
        public Void visitNewClass(NewClassTree tree, Void none) {
            call(named(element()));
            return super.visitNewClass(tree, none);
        }

        private void call(String called) {
            calls.computeIfAbsent(caller, none -> new TreeSet<>()).add(called);
        }

        private Element element() {
            return trees.getElement(getCurrentPath());
        }

        private static String named(Element element) {
            boolean isMember = element.getKind() == ElementKind.METHOD || element.getKind() == ElementKind.CONSTRUCTOR;
            return isMember ? element.getEnclosingElement() + "." + element : element.toString();
        }
    }

    public static void main(String[] args) throws IOException {
        Check check = new Check();
        Map<String, Set<String>> calls = calls();
        check.due("methods found", calls.size() > 100, true);
        check.due("calls found", calls.get("Fieldgrammar.put(int)").contains("Fieldgrammar.checkSound(int)"), true);
        for (String method : calls.keySet()) {
            int depth = depth(method, calls, 1);
            check.due("rules 8 and 11: calls from " + method + " go " + depth + " deep", depth <= DEEPEST, true);
        }
        check.close();
    }

    /** How many calls stand open at once from this one on; a circle of calls goes on to far beyond what is allowed. */
    private static int depth(String method, Map<String, Set<String>> calls, int ahead) {
        int deepest = 1;
        if (ahead <= 2 * DEEPEST) {
            for (String called : calls.getOrDefault(method, Set.of())) {
                if (calls.containsKey(called)) {
                    deepest = Math.max(deepest, 1 + depth(called, calls, ahead + 1));
                }
            }
        }
        return deepest;
    }

    private static Map<String, Set<String>> calls() throws IOException {
        JavaCompiler javac = ToolProvider.getSystemJavaCompiler();
        try (StandardJavaFileManager files = javac.getStandardFileManager(null, null, null)) {
            JavacTask task = (JavacTask) javac.getTask(null, files, null, List.of(), null,
                    files.getJavaFileObjects(SOURCE));
            Calls calls = new Calls(Trees.instance(task));
            Iterable<? extends CompilationUnitTree> units = task.parse();
            task.analyze();
            units.forEach(unit -> calls.scan(new TreePath(unit), null));
            return calls.calls;
        }
    }
}
