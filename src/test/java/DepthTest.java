import com.sun.source.tree.CompilationUnitTree;
import com.sun.source.tree.MethodInvocationTree;
import com.sun.source.tree.MethodTree;
import com.sun.source.tree.NewClassTree;
import com.sun.source.util.JavacTask;
import com.sun.source.util.TreePathScanner;
import com.sun.source.util.Trees;
import java.io.IOException;
import java.nio.file.Path;
import java.util.ArrayList;
import java.util.List;
import java.util.Map;
import java.util.Set;
import java.util.TreeMap;
import java.util.TreeSet;
import javax.lang.model.element.Element;
import javax.tools.JavaCompiler;
import javax.tools.StandardJavaFileManager;
import javax.tools.ToolProvider;

/** Rules 8, 11 and 12 of LANGUAGE.md: no method comes to itself again, calls go eight deep, methods make no object. */
public final class DepthTest {
    private static final int MOST = 8;

    private static final Map<String, Set<String>> CALLS = new TreeMap<>();
    private static int wrong;

    public static void main(String[] args) throws IOException {
        JavaCompiler compiler = ToolProvider.getSystemJavaCompiler();
        StandardJavaFileManager files = compiler.getStandardFileManager(null, null, null);
        JavacTask task = (JavacTask) compiler.getTask(null, files, null, null, null,
            files.getJavaFileObjects(Path.of("src/main/java/NothingJudge.java")));
        Iterable<? extends CompilationUnitTree> units = task.parse();
        task.analyze();
        for (CompilationUnitTree unit : units) {
            new Finder(Trees.instance(task)).scan(unit, "");
        }
        int deepest = 0;
        for (String method : CALLS.keySet()) {
            deepest = Math.max(deepest, depth(method, new ArrayList<>()));
        }
        if (deepest == 0 || wrong > 0) {
            System.out.println("the calls of the class are not as they must be");
            System.exit(1);
        }
        System.out.println("calls go " + deepest + " deep");
    }

    private static void tell(String what) {
        wrong++;
        System.out.println(what);
    }

    private static int depth(String method, List<String> open) {
        if (open.contains(method)) {
            tell("comes to itself again: " + open + ", " + method);
            return 0;
        }
        open.add(method);
        if (open.size() == MOST + 1) {
            tell("too deep: " + open);
        }
        int most = 0;
        for (String called : CALLS.getOrDefault(method, Set.of())) {
            most = Math.max(most, depth(called, open));
        }
        open.remove(open.size() - 1);
        return most + 1;
    }

    /** Notes which method calls which, the library's too. */
    private static final class Finder extends TreePathScanner<Void, String> {
        private final Trees trees;

        Finder(Trees trees) {
            this.trees = trees;
        }

        private String name() {
            Element element = trees.getElement(getCurrentPath());
            return element.getEnclosingElement().getSimpleName() + "." + element;
        }

        @Override
        public Void visitMethod(MethodTree method, String within) {
            return super.visitMethod(method, name());
        }

        @Override
        public Void visitMethodInvocation(MethodInvocationTree call, String within) {
            CALLS.computeIfAbsent(within, key -> new TreeSet<>()).add(name());
            return super.visitMethodInvocation(call, within);
        }

        @Override
        public Void visitNewClass(NewClassTree made, String within) {
            if (!within.isEmpty()) {
                tell(within + " makes an object: " + made);
            }
            return super.visitNewClass(made, within);
        }
    }
}
