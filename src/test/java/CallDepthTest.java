import com.sun.source.tree.CompilationUnitTree;
import com.sun.source.tree.ExpressionTree;
import com.sun.source.tree.MemberSelectTree;
import com.sun.source.tree.MethodInvocationTree;
import com.sun.source.tree.MethodTree;
import com.sun.source.tree.NewClassTree;
import com.sun.source.util.JavacTask;
import com.sun.source.util.TreePathScanner;
import com.sun.source.util.Trees;
import java.nio.file.Path;
import java.util.ArrayList;
import java.util.HashMap;
import java.util.LinkedHashMap;
import java.util.LinkedHashSet;
import java.util.List;
import java.util.Map;
import java.util.Set;
import javax.lang.model.element.ExecutableElement;
import javax.lang.model.element.TypeElement;
import javax.lang.model.util.Elements;
import javax.tools.JavaCompiler;
import javax.tools.StandardJavaFileManager;
import javax.tools.ToolProvider;

/**
 * Rules 8 and 11 of LANGUAGE.md: no method of the class comes back to itself, and calls go at most eight deep, those of
 * the library among them. A call of what several KINDS have of their own is taken to lead to each of these.
 */
public final class CallDepthTest {
    private static final Path SOURCE = Path.of("src/main/java/SmokeRings.java");
    private static final int DEEPEST = 8;

    private final Map<ExecutableElement, Set<ExecutableElement>> calls = new LinkedHashMap<>();
    /** Calls that begin with super lead to one method alone. */
    private final Map<ExecutableElement, Set<ExecutableElement>> callsOfSuper = new HashMap<>();
    private final Map<ExecutableElement, List<ExecutableElement>> ways = new HashMap<>();
    private final Set<ExecutableElement> comingBack = new LinkedHashSet<>();

    public static void main(String[] args) throws Exception {
        CallDepthTest test = new CallDepthTest();
        test.readSource();
        int wrong = 0;
        int deepest = 0;
        for (ExecutableElement method : test.calls.keySet()) {
            List<ExecutableElement> way = test.longestWay(method, new LinkedHashSet<>());
            deepest = Math.max(deepest, way.size());
            if (way.size() > DEEPEST) {
                wrong++;
                System.out.println("rule 11: " + way.size() + " deep: " + told(way));
            }
        }
        for (ExecutableElement method : test.comingBack) {
            wrong++;
            System.out.println("rule 8: it comes back to itself: " + told(List.of(method)));
        }
        if (test.calls.size() < 100 || deepest < 3) {
            wrong++;
            System.out.println("the source was not read: " + test.calls.size() + " methods, " + deepest + " deep");
        }
        System.out.println(wrong == 0 ? "calls go " + deepest + " deep" : wrong + " ways are too deep");
        if (wrong != 0) {
            System.exit(1);
        }
    }

    private static String told(List<ExecutableElement> way) {
        StringBuilder told = new StringBuilder();
        for (ExecutableElement method : way) {
            told.append(' ').append(method.getEnclosingElement()).append('.').append(method.getSimpleName());
        }
        return told.toString();
    }

    private void readSource() throws Exception {
        JavaCompiler compiler = ToolProvider.getSystemJavaCompiler();
        try (StandardJavaFileManager files = compiler.getStandardFileManager(null, null, null)) {
            JavacTask task = (JavacTask) compiler.getTask(null, files, null, List.of("-proc:none"), null,
                files.getJavaFileObjects(SOURCE));
            Iterable<? extends CompilationUnitTree> units = task.parse();
            task.analyze();
            for (CompilationUnitTree unit : units) {
                new Reader(Trees.instance(task)).scan(unit, null);
            }
            addWhatKindsHave(task.getElements());
        }
    }

    private void addWhatKindsHave(Elements elements) {
        for (ExecutableElement caller : calls.keySet()) {
            for (ExecutableElement called : List.copyOf(calls.get(caller))) {
                for (ExecutableElement own : calls.keySet()) {
                    if (elements.overrides(own, called, (TypeElement) own.getEnclosingElement())) {
                        calls.get(caller).add(own);
                    }
                }
            }
            calls.get(caller).addAll(callsOfSuper.get(caller));
        }
    }

    /** The longest run of calls that stand open at once, from a method on. */
    private List<ExecutableElement> longestWay(ExecutableElement from, Set<ExecutableElement> open) {
        if (ways.containsKey(from)) {
            return ways.get(from);
        }
        List<ExecutableElement> longest = List.of();
        if (!open.add(from)) {
            comingBack.add(from);
            return longest;
        }
        for (ExecutableElement called : calls.getOrDefault(from, Set.of())) {
            List<ExecutableElement> way = longestWay(called, open);
            longest = way.size() > longest.size() ? way : longest;
        }
        open.remove(from);
        List<ExecutableElement> way = new ArrayList<>(List.of(from));
        way.addAll(longest);
        ways.put(from, way);
        return way;
    }

    /** Notes which method calls which. */
    private final class Reader extends TreePathScanner<Void, Void> {
        private final Trees trees;
        private ExecutableElement in;

        Reader(Trees trees) {
            this.trees = trees;
        }

        @Override
        public Void visitMethod(MethodTree method, Void none) {
            in = (ExecutableElement) trees.getElement(getCurrentPath());
            calls.put(in, new LinkedHashSet<>());
            callsOfSuper.put(in, new LinkedHashSet<>());
            return super.visitMethod(method, none);
        }

        @Override
        public Void visitMethodInvocation(MethodInvocationTree call, Void none) {
            note(isOfSuper(call.getMethodSelect()) ? callsOfSuper : calls);
            return super.visitMethodInvocation(call, none);
        }

        @Override
        public Void visitNewClass(NewClassTree made, Void none) {
            note(calls);
            return super.visitNewClass(made, none);
        }

        private boolean isOfSuper(ExpressionTree called) {
            return called instanceof MemberSelectTree
                && ((MemberSelectTree) called).getExpression().toString().equals("super");
        }

        private void note(Map<ExecutableElement, Set<ExecutableElement>> where) {
            if (in != null && trees.getElement(getCurrentPath()) instanceof ExecutableElement) {
                where.get(in).add((ExecutableElement) trees.getElement(getCurrentPath()));
            }
        }
    }
}
