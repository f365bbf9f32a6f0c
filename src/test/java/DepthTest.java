import com.sun.source.tree.ClassTree;
import com.sun.source.tree.CompilationUnitTree;
import com.sun.source.tree.LineMap;
import com.sun.source.tree.MethodInvocationTree;
import com.sun.source.tree.MethodTree;
import com.sun.source.tree.NewClassTree;
import com.sun.source.util.JavacTask;
import com.sun.source.util.SourcePositions;
import com.sun.source.util.TreeScanner;
import com.sun.source.util.TreePath;
import com.sun.source.util.TreePathScanner;
import com.sun.source.util.Trees;
import java.io.IOException;
import java.nio.file.Path;
import java.util.HashMap;
import java.util.LinkedHashSet;
import java.util.List;
import java.util.Map;
import java.util.Set;
import javax.lang.model.element.Element;
import javax.lang.model.element.ElementKind;
import javax.tools.JavaCompiler;
import javax.tools.StandardJavaFileManager;
import javax.tools.ToolProvider;

/** LANGUAGE.md, rules 8 and 11: how deep calls go, how long methods are, how many classes and fields there are. */
public final class DepthTest {
    private static final Due DUE = new Due("DepthTest");
    private static final Path SOURCE = Path.of("src/main/java/DoorsOneSide.java");
    private static final int DEPTH_MOST = 8;
    private static final int LINES_MOST = 60;
    private static final int CLASSES_MOST = 12;
    private static final int FIELDS_MOST = 20;

    /** Whom a method of the file calls in the file. */
    private static final Map<Element, Set<Element>> CALLS = new HashMap<>();

    public static void main(String[] args) throws IOException {
        JavaCompiler compiler = ToolProvider.getSystemJavaCompiler();
        try (StandardJavaFileManager files = compiler.getStandardFileManager(null, null, null)) {
            JavacTask task = (JavacTask) compiler.getTask(null, files, null, List.of("-proc:none"), null,
                files.getJavaFileObjects(SOURCE));
            CompilationUnitTree unit = task.parse().iterator().next();
            task.analyze();
            Trees trees = Trees.instance(task);
            readCalls(unit, trees);
            giveInitialisersToConstructors();
            measure(unit, trees.getSourcePositions());
        }
        for (Element method : CALLS.keySet()) {
            int depth = depth(method, 1);
            DUE.is(method + " goes " + depth + " calls deep", 1, depth <= DEPTH_MOST ? 1 : 0);
        }
        DUE.is("methods were read", 1, CALLS.size() > 40 ? 1 : 0);
        DUE.end();
    }

    private static void readCalls(CompilationUnitTree unit, Trees trees) {
        new TreePathScanner<Void, Element>() {
            @Override public Void visitClass(ClassTree type, Element outer) {
                Element self = trees.getElement(getCurrentPath());
                CALLS.put(self, new LinkedHashSet<>());
                return super.visitClass(type, self);
            }

            @Override public Void visitMethod(MethodTree method, Element outer) {
                Element self = trees.getElement(getCurrentPath());
                CALLS.put(self, new LinkedHashSet<>());
                return super.visitMethod(method, self);
            }

            @Override public Void visitMethodInvocation(MethodInvocationTree call, Element from) {
                note(from, trees.getElement(new TreePath(getCurrentPath(), call.getMethodSelect())));
                return super.visitMethodInvocation(call, from);
            }

            @Override public Void visitNewClass(NewClassTree made, Element from) {
                note(from, trees.getElement(getCurrentPath()));
                return super.visitNewClass(made, from);
            }

            private void note(Element from, Element to) {
                if (from != null && to != null) {
                    CALLS.get(from).add(to);
                }
            }
        }.scan(unit, null);
    }

    /** What a field is given when it is told is made by the constructors. */
    private static void giveInitialisersToConstructors() {
        for (Element called : List.copyOf(CALLS.keySet())) {
            if (called.getKind() == ElementKind.CONSTRUCTOR) {
                CALLS.get(called).addAll(CALLS.get(called.getEnclosingElement()));
            }
        }
        CALLS.keySet().removeIf(called -> called.getKind() == ElementKind.CLASS);
    }

    /** No method calls itself, not by others either: a circle would be told as too deep. */
    private static int depth(Element method, int level) {
        int deepest = level;
        if (level > 3 * DEPTH_MOST) {
            return level;
        }
        for (Element called : CALLS.get(method)) {
            if (CALLS.containsKey(called)) {
                deepest = Math.max(deepest, depth(called, level + 1));
            }
        }
        return deepest;
    }

    private static void measure(CompilationUnitTree unit, SourcePositions places) {
        LineMap lines = unit.getLineMap();
        int[] classes = new int[1];
        new TreeScanner<Void, Void>() {
            @Override public Void visitClass(ClassTree type, Void none) {
                classes[0]++;
                long fields = type.getMembers().stream()
                    .filter(m -> m instanceof com.sun.source.tree.VariableTree)
                    .filter(m -> !m.toString().contains("static")).count();
                DUE.is(type.getSimpleName() + " has " + fields + " fields", 1, fields <= FIELDS_MOST ? 1 : 0);
                return super.visitClass(type, none);
            }

            @Override public Void visitMethod(MethodTree method, Void none) {
                long first = lines.getLineNumber(Math.max(0, places.getStartPosition(unit, method)));
                long last = lines.getLineNumber(Math.max(0, places.getEndPosition(unit, method)));
                DUE.is(method.getName() + " has " + (last - first + 1) + " lines", 1, last - first < LINES_MOST ? 1 : 0);
                DUE.is(method.getName() + " takes too many", 0, method.getParameters().size() > 7 ? 1 : 0);
                return super.visitMethod(method, none);
            }
        }.scan(unit, null);
        DUE.is("classes: " + classes[0], 1, classes[0] <= CLASSES_MOST ? 1 : 0);
    }
}
