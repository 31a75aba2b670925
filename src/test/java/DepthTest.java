import com.sun.source.tree.ClassTree;
import com.sun.source.tree.CompilationUnitTree;
import com.sun.source.tree.LineMap;
import com.sun.source.tree.MethodInvocationTree;
import com.sun.source.tree.MethodTree;
import com.sun.source.tree.NewClassTree;
import com.sun.source.util.JavacTask;
import com.sun.source.util.SourcePositions;
import com.sun.source.util.TreePathScanner;
import com.sun.source.util.Trees;
import java.io.IOException;
import java.nio.file.Path;
import java.util.HashMap;
import java.util.HashSet;
import java.util.Map;
import java.util.Set;
import java.util.TreeSet;
import javax.lang.model.element.Element;
import javax.lang.model.element.ExecutableElement;
import javax.tools.JavaCompiler;
import javax.tools.StandardJavaFileManager;
import javax.tools.ToolProvider;

/** Rules 8 and 11 of LANGUAGE.md, as javac reads the class: how deep calls go, and how long methods are. */
public final class DepthTest {
    private static final Check CHECK = new Check("DepthTest");
    private static final int MOST_DEEP = 8;
    private static final int MOST_LINES = 60;

    /** Which methods and constructors each one calls; those of the library call nothing. */
    private final Map<String, Set<String>> calls = new HashMap<>();
    private final Map<String, Integer> depths = new HashMap<>();
    private final Set<String> open = new HashSet<>();

    public static void main(String[] args) throws IOException {
        new DepthTest().run();
        CHECK.end();
    }

    private void run() throws IOException {
        JavaCompiler compiler = ToolProvider.getSystemJavaCompiler();
        try (StandardJavaFileManager files = compiler.getStandardFileManager(null, null, null)) {
            JavacTask task = (JavacTask) compiler.getTask(null, files, null, null, null,
                files.getJavaFileObjects(Path.of("src/main/java/EqualHeights.java")));
            Iterable<? extends CompilationUnitTree> units = task.parse();
            task.analyze();
            for (CompilationUnitTree unit : units) {
                new Reading(Trees.instance(task)).scan(unit, null);
            }
        }
        CHECK.holds("more than fifty methods were read", calls.size() > 50);
        for (String method : new TreeSet<>(calls.keySet())) {
            int depth = depthOf(method);
            CHECK.holds(method + " goes " + depth + " deep", depth <= MOST_DEEP);
        }
    }

    /** With the method itself and those of the library; the class has no recursion, so there is no way back. */
    private int depthOf(String method) {
        if (depths.containsKey(method)) {
            return depths.get(method);
        }
        boolean isNew = open.add(method);
        CHECK.holds(method + " does not call itself", isNew);
        int deepest = 0;
        if (isNew) {
            for (String called : calls.getOrDefault(method, Set.of())) {
                deepest = Math.max(deepest, depthOf(called));
            }
            open.remove(method);
        }
        depths.put(method, deepest + 1);
        return deepest + 1;
    }

    private final class Reading extends TreePathScanner<Void, Void> {
        private final Trees trees;
        private String owner = "";
        private String caller = "";

        Reading(Trees trees) {
            this.trees = trees;
        }

        @Override
        public Void visitClass(ClassTree node, Void nothing) {
            String ownerOutside = owner;
            String callerOutside = caller;
            // What stands outside of methods is done by the constructors; each class has one.
            owner = trees.getElement(getCurrentPath()).toString();
            caller = owner + " made";
            super.visitClass(node, nothing);
            owner = ownerOutside;
            caller = callerOutside;
            return null;
        }

        @Override
        public Void visitMethod(MethodTree node, Void nothing) {
            SourcePositions positions = trees.getSourcePositions();
            CompilationUnitTree unit = getCurrentPath().getCompilationUnit();
            LineMap map = unit.getLineMap();
            String outside = caller;
            caller = nameOf(trees.getElement(getCurrentPath()));
            calls.computeIfAbsent(caller, name -> new TreeSet<>());
            // A constructor that is not written has no place of its own.
            long end = positions.getEndPosition(unit, node);
            if (end >= 0) {
                long lines = map.getLineNumber(end) - map.getLineNumber(positions.getStartPosition(unit, node)) + 1;
                CHECK.holds(caller + " has " + lines + " lines", lines <= MOST_LINES);
            }
            super.visitMethod(node, nothing);
            caller = outside;
            return null;
        }

        @Override
        public Void visitMethodInvocation(MethodInvocationTree node, Void nothing) {
            noteCall();
            return super.visitMethodInvocation(node, nothing);
        }

        @Override
        public Void visitNewClass(NewClassTree node, Void nothing) {
            noteCall();
            return super.visitNewClass(node, nothing);
        }

        private void noteCall() {
            String called = nameOf(trees.getElement(getCurrentPath()));
            calls.computeIfAbsent(caller, name -> new TreeSet<>()).add(called);
        }

        private String nameOf(Element element) {
            ExecutableElement method = (ExecutableElement) element;
            String of = method.getEnclosingElement().toString();
            return method.getSimpleName().contentEquals("<init>") ? of + " made" : of + "." + method;
        }
    }
}
