import com.sun.source.tree.ClassTree;
import com.sun.source.tree.CompilationUnitTree;
import com.sun.source.tree.MethodInvocationTree;
import com.sun.source.tree.MethodTree;
import com.sun.source.tree.NewClassTree;
import com.sun.source.util.JavacTask;
import com.sun.source.util.TreePathScanner;
import com.sun.source.util.Trees;
import java.io.IOException;
import java.nio.file.Path;
import java.util.HashMap;
import java.util.HashSet;
import java.util.List;
import java.util.Map;
import java.util.Set;
import java.util.TreeSet;
import javax.lang.model.element.Element;
import javax.lang.model.element.Modifier;
import javax.tools.JavaCompiler;
import javax.tools.StandardJavaFileManager;
import javax.tools.ToolProvider;

/** LANGUAGE.md, rules 8 and 11: how deep calls go, and which methods call themselves. */
public final class CallDepthTest {
    private static final int MOST_DEEP = 8;
    private static final Check C = new Check();

    private final Map<Element, Set<Element>> calls = new HashMap<>();
    private final Map<Element, Integer> depths = new HashMap<>();
    private final Set<String> again = new TreeSet<>();

    public static void main(String[] args) throws IOException {
        CallDepthTest test = new CallDepthTest();
        test.readCalls(Path.of("src/main/java/WallHouse.java"));
        C.part("how deep calls go");
        C.yes("calls were found", test.calls.size() > 100);
        for (Element method : test.calls.keySet()) {
            if (method.getModifiers().contains(Modifier.PUBLIC)) {
                int deep = test.depth(method, new HashSet<>());
                C.yes(method + " goes " + deep + " deep", deep <= MOST_DEEP);
            }
        }
        C.part("methods that call themselves");
        C.yes(test.again + ": tryFrom alone", test.again.equals(Set.of("tryFrom(int,int,int)")));
        C.end();
    }

    private void readCalls(Path file) throws IOException {
        JavaCompiler compiler = ToolProvider.getSystemJavaCompiler();
        try (StandardJavaFileManager files = compiler.getStandardFileManager(null, null, null)) {
            JavacTask task = (JavacTask) compiler.getTask(null, files, null, List.of("-proc:none"), null,
                    files.getJavaFileObjects(file.toFile()));
            Iterable<? extends CompilationUnitTree> units = task.parse();
            task.analyze();
            for (CompilationUnitTree unit : units) {
                new Reader(Trees.instance(task)).scan(unit, null);
            }
        }
    }

    /** A call that comes to its own method again is left out of the depth, and named. */
    private int depth(Element method, Set<Element> open) {
        Integer known = depths.get(method);
        if (known != null) {
            return known;
        }
        int most = 0;
        open.add(method);
        for (Element called : calls.getOrDefault(method, Set.of())) {
            if (open.contains(called)) {
                again.add(called.toString());
            } else {
                most = Math.max(most, depth(called, open));
            }
        }
        open.remove(method);
        depths.put(method, most + 1);
        return most + 1;
    }

    private final class Reader extends TreePathScanner<Void, Void> {
        private final Trees trees;
        private Element within;

        Reader(Trees trees) {
            this.trees = trees;
        }

        @Override
        public Void visitClass(ClassTree tree, Void none) {
            Element outer = within;
            within = null;
            super.visitClass(tree, none);
            within = outer;
            return null;
        }

        @Override
        public Void visitMethod(MethodTree tree, Void none) {
            within = trees.getElement(getCurrentPath());
            calls.computeIfAbsent(within, m -> new HashSet<>());
            super.visitMethod(tree, none);
            within = null;
            return null;
        }

        @Override
        public Void visitMethodInvocation(MethodInvocationTree tree, Void none) {
            note();
            return super.visitMethodInvocation(tree, none);
        }

        @Override
        public Void visitNewClass(NewClassTree tree, Void none) {
            note();
            return super.visitNewClass(tree, none);
        }

        private void note() {
            if (within != null) {
                calls.get(within).add(trees.getElement(getCurrentPath()));
            }
        }
    }
}
