import com.sun.source.tree.ClassTree;
import com.sun.source.tree.CompilationUnitTree;
import com.sun.source.tree.MethodInvocationTree;
import com.sun.source.tree.MethodTree;
import com.sun.source.tree.NewClassTree;
import com.sun.source.util.JavacTask;
import com.sun.source.util.TreePathScanner;
import com.sun.source.util.Trees;
import java.io.IOException;
import java.nio.file.Path;
import java.util.HashMap;
import java.util.HashSet;
import java.util.List;
import java.util.Map;
import java.util.Set;
import javax.lang.model.element.Element;
import javax.lang.model.element.Modifier;
import javax.tools.JavaCompiler;
import javax.tools.StandardJavaFileManager;
import javax.tools.ToolProvider;

/** Of ../shared/LANGUAGE.md: no recursion, so that no call fails to end by it, and calls that go eight deep at most. */
public final class DepthTest {
    private static final Due due = new Due();
    private static final int DEEPEST = 8;

    public static void main(String[] args) throws IOException {
        JavaCompiler compiler = ToolProvider.getSystemJavaCompiler();
        Map<Element, Set<Element>> calls = new HashMap<>();
        try (StandardJavaFileManager files = compiler.getStandardFileManager(null, null, null)) {
            JavacTask task = (JavacTask) compiler.getTask(null, files, null, List.of("-proc:none"), null,
                    files.getJavaFileObjects(Path.of("src/main/java/GloveRail.java")));
            Calls found = new Calls(Trees.instance(task), calls);
            Iterable<? extends CompilationUnitTree> units = task.parse();
            task.analyze();
            found.scan(units, null);
        }
        int open = 0;
        int deepest = 0;
        for (Element method : calls.keySet()) {
            if (method.getModifiers().contains(Modifier.PUBLIC)) {
                open++;
                int deep = depth(method, calls, new HashSet<>());
                deepest = Math.max(deepest, deep);
                due.is("eight deep at most: " + method, Math.max(DEEPEST, deep), DEEPEST);
            }
        }
        due.is("the calls of the face and the constructor were found", open, 38);
        due.is("calls within calls were found", Math.max(6, deepest), deepest);
        due.end();
    }

    /** How many calls stand open at once; the library's count, too. */
    private static int depth(Element method, Map<Element, Set<Element>> calls, Set<Element> open) {
        boolean first = open.add(method);
        due.is("no recursion: " + method.getEnclosingElement() + "." + method, first ? 0 : 1, 0);
        int deep = 0;
        for (Element called : first ? calls.getOrDefault(method, Set.of()) : Set.<Element>of()) {
            deep = Math.max(deep, depth(called, calls, open));
        }
        if (first) {
            open.remove(method);
        }
        return deep + 1;
    }

    /** Which methods and constructors each one calls. */
    private static final class Calls extends TreePathScanner<Void, Void> {
        private final Trees trees;
        private final Map<Element, Set<Element>> calls;
        private Set<Element> within = new HashSet<>();

        Calls(Trees trees, Map<Element, Set<Element>> calls) {
            this.trees = trees;
            this.calls = calls;
        }

        @Override
        public Void visitClass(ClassTree tree, Void none) {
            Set<Element> outer = within;
            within = new HashSet<>();
            super.visitClass(tree, none);
            within = outer;
            return null;
        }

        @Override
        public Void visitMethod(MethodTree tree, Void none) {
            Set<Element> outer = within;
            within = calls.computeIfAbsent(trees.getElement(getCurrentPath()), method -> new HashSet<>());
            super.visitMethod(tree, none);
            within = outer;
            return null;
        }

        @Override
        public Void visitMethodInvocation(MethodInvocationTree tree, Void none) {
            within.add(trees.getElement(getCurrentPath()));
            return super.visitMethodInvocation(tree, none);
        }

        @Override
        public Void visitNewClass(NewClassTree tree, Void none) {
            within.add(trees.getElement(getCurrentPath()));
            return super.visitNewClass(tree, none);
        }
    }
}
