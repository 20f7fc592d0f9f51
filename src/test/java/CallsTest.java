import com.sun.source.tree.CompilationUnitTree;
import com.sun.source.tree.MethodInvocationTree;
import com.sun.source.tree.MethodTree;
import com.sun.source.tree.NewClassTree;
import com.sun.source.util.JavacTask;
import com.sun.source.util.TreePathScanner;
import com.sun.source.util.Trees;
import java.io.IOException;
import java.nio.file.Path;
import java.util.ArrayList;
import java.util.HashMap;
import java.util.List;
import java.util.Map;
import java.util.Set;
import java.util.TreeMap;
import java.util.TreeSet;
import javax.lang.model.element.Element;
import javax.tools.JavaCompiler;
import javax.tools.StandardJavaFileManager;
import javax.tools.ToolProvider;

/**
 * LANGUAGE.md, rules 8 and 11: no method of the class comes back to itself, and calls go eight deep at most, those
 * into the library too; run in the project's folder. The compiler tells which method each call means.
 */
public final class CallsTest {
    private static final int DEEP_MOST = 8;
    private static final Due due = new Due();

    /** Whom each method of the class calls. */
    private static final Map<String, Set<String>> calls = new TreeMap<>();
    private static final Map<String, List<String>> longest = new HashMap<>();

    public static void main(String[] args) throws IOException {
        read(Path.of("src/main/java/RollingNets.java"));
        due.is("the methods of the class: " + calls.size(), calls.size() > 100, true);
        for (String method : calls.keySet()) {
            List<String> way = longestFrom(method, new ArrayList<>());
            due.is("at most eight deep: " + way, way.size() <= DEEP_MOST, true);
        }
        due.end();
    }

    private static void read(Path file) throws IOException {
        JavaCompiler compiler = ToolProvider.getSystemJavaCompiler();
        try (StandardJavaFileManager files = compiler.getStandardFileManager(null, null, null)) {
            JavacTask task = (JavacTask) compiler.getTask(
                    null, files, null, List.of("-proc:none"), null, files.getJavaFileObjects(file));
            Iterable<? extends CompilationUnitTree> units = task.parse();
            task.analyze();
            for (CompilationUnitTree unit : units) {
                new Scanner(Trees.instance(task)).scan(unit, null);
            }
        }
    }

    private static final class Scanner extends TreePathScanner<Void, Void> {
        private final Trees trees;
        private Set<String> of = new TreeSet<>();

        Scanner(Trees trees) {
            this.trees = trees;
        }

        private String here() {
            Element element = trees.getElement(getCurrentPath());
            return element.getEnclosingElement() + "." + element;
        }

        @Override
        public Void visitMethod(MethodTree method, Void none) {
            of = calls.computeIfAbsent(here(), name -> new TreeSet<>());
            return super.visitMethod(method, none);
        }

        @Override
        public Void visitMethodInvocation(MethodInvocationTree call, Void none) {
            of.add(here());
            return super.visitMethodInvocation(call, none);
        }

        @Override
        public Void visitNewClass(NewClassTree made, Void none) {
            of.add(here());
            return super.visitNewClass(made, none);
        }
    }

    /** The longest way of calls that begins with a method; those that are open lead to it. */
    private static List<String> longestFrom(String method, List<String> open) {
        if (longest.containsKey(method)) {
            return longest.get(method);
        }
        List<String> way = new ArrayList<>(List.of(method));
        due.is("no way back to itself: " + open + " to " + method, open.contains(method), false);
        if (open.contains(method)) {
            return way;
        }
        open.add(method);
        List<String> best = List.of();
        for (String next : calls.getOrDefault(method, Set.of())) {
            List<String> one = longestFrom(next, open);
            best = one.size() > best.size() ? one : best;
        }
        open.remove(method);
        way.addAll(best);
        longest.put(method, way);
        return way;
    }
}
