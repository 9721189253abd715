import com.sun.source.tree.ClassTree;
import com.sun.source.tree.CompilationUnitTree;
import com.sun.source.tree.MethodInvocationTree;
import com.sun.source.tree.MethodTree;
import com.sun.source.tree.NewClassTree;
import com.sun.source.util.JavacTask;
import com.sun.source.util.TreePathScanner;
import com.sun.source.util.Trees;
import java.io.IOException;
import java.nio.file.Path;
import java.util.ArrayList;
import java.util.List;
import java.util.Map;
import java.util.Set;
import java.util.TreeMap;
import java.util.TreeSet;
import javax.lang.model.element.Element;
import javax.lang.model.element.ExecutableElement;
import javax.lang.model.element.Modifier;
import javax.tools.JavaCompiler;
import javax.tools.StandardJavaFileManager;
import javax.tools.ToolProvider;

/** Which methods of the class call which, as javac reads them: how deep calls go (rule 11), recursion (8), the library (4). */
public final class CallsTest {
    private static final Path SOURCE = Path.of("src/main/java/VersionVault.java");
    private static final int DEEPEST = 8;
    private static final Set<String> LIBRARY = Set.of("java.lang.Math.max", "java.lang.Math.min", "java.lang.Math.abs",
        "java.lang.Long.bitCount", "java.lang.Object.<init>");
    private static final Set<String> FACE = new TreeSet<>();
    private static int wrong = 0;

    public static void main(String[] args) throws IOException {
        Map<String, Set<String>> calls = readCalls();
        for (String method : calls.keySet()) {
            follow(method, calls, new ArrayList<>());
        }
        everyMethodIsUsed(calls);
        System.out.println(wrong == 0 ? "calls go as they may" : wrong + " calls are not as they may be");
        if (wrong != 0 || FACE.size() != 43) {
            System.exit(1);
        }
    }

    private static void tell(String words) {
        wrong++;
        System.out.println("broken: " + words);
    }

    private static Map<String, Set<String>> readCalls() throws IOException {
        JavaCompiler compiler = ToolProvider.getSystemJavaCompiler();
        Map<String, Set<String>> calls = new TreeMap<>();
        try (StandardJavaFileManager files = compiler.getStandardFileManager(null, null, null)) {
            JavacTask task = (JavacTask) compiler.getTask(null, files, null, List.of("-proc:none"), null,
                files.getJavaFileObjects(SOURCE.toFile()));
            Iterable<? extends CompilationUnitTree> units = task.parse();
            task.analyze();
            for (CompilationUnitTree unit : units) {
                new Reader(Trees.instance(task), calls).scan(unit, null);
            }
        }
        return calls;
    }

    /** Goes down every way of calls from a method, and tells one that is too long or comes back to itself. */
    private static void follow(String method, Map<String, Set<String>> calls, List<String> way) {
        if (way.contains(method)) {
            tell("rule 8: recursion: " + way + " " + method);
            return;
        }
        way.add(method);
        if (way.size() > DEEPEST) {
            tell("rule 11: calls " + way.size() + " deep: " + way);
        } else {
            for (String callee : calls.getOrDefault(method, Set.of())) {
                if (calls.containsKey(callee)) {
                    follow(callee, calls, way);
                } else if (!LIBRARY.contains(callee)) {
                    tell("rule 4: " + method + " calls " + callee);
                } else if (way.size() == DEEPEST) {
                    tell("rule 11: calls " + (way.size() + 1) + " deep: " + way + " " + callee);
                }
            }
        }
        way.remove(way.size() - 1);
    }

    private static void everyMethodIsUsed(Map<String, Set<String>> calls) {
        Set<String> used = new TreeSet<>();
        for (Set<String> callees : calls.values()) {
            used.addAll(callees);
        }
        for (String method : calls.keySet()) {
            if (!FACE.contains(method) && !used.contains(method)) {
                tell("nothing calls " + method);
            }
        }
    }

    /** Gathers of each method and constructor what it calls; what fields begin with counts for the constructors. */
    private static final class Reader extends TreePathScanner<Void, Void> {
        private final Trees trees;
        private final Map<String, Set<String>> calls;
        private String here = "";

        private Reader(Trees trees, Map<String, Set<String>> calls) {
            this.trees = trees;
            this.calls = calls;
        }

        @Override
        public Void visitClass(ClassTree tree, Void none) {
            String outer = here;
            here = trees.getElement(getCurrentPath()) + ".<init>";
            super.visitClass(tree, none);
            here = outer;
            return null;
        }

        @Override
        public Void visitMethod(MethodTree tree, Void none) {
            String outer = here;
            here = nameOf(trees.getElement(getCurrentPath()));
            calls.computeIfAbsent(here, k -> new TreeSet<>());
            if (tree.getModifiers().getFlags().contains(Modifier.PUBLIC)) {
                FACE.add(here);
            }
            super.visitMethod(tree, none);
            here = outer;
            return null;
        }

        @Override
        public Void visitMethodInvocation(MethodInvocationTree tree, Void none) {
            put(trees.getElement(getCurrentPath()));
            return super.visitMethodInvocation(tree, none);
        }

        @Override
        public Void visitNewClass(NewClassTree tree, Void none) {
            put(trees.getElement(getCurrentPath()));
            return super.visitNewClass(tree, none);
        }

        private void put(Element callee) {
            calls.computeIfAbsent(here, k -> new TreeSet<>()).add(nameOf(callee));
        }

        private static String nameOf(Element method) {
            ExecutableElement it = (ExecutableElement) method;
            return it.getEnclosingElement() + "." + it.getSimpleName();
        }
    }
}
