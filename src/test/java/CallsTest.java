import com.sun.source.tree.*;
import com.sun.source.util.JavacTask;
import com.sun.source.util.TreePathScanner;
import com.sun.source.util.Trees;
import java.util.Collection;
import java.util.HashSet;
import java.util.Map;
import java.util.Set;
import java.util.TreeMap;
import java.util.TreeSet;
import javax.lang.model.element.Element;
import javax.lang.model.element.Modifier;
import javax.tools.JavaCompiler;
import javax.tools.ToolProvider;

/** LANGUAGE.md's rules 8 and 11 on calls: recursion by private methods alone, others eight deep at most. */
public final class CallsTest extends TreePathScanner<Void, String> {
    private final Trees trees;
    private final Map<String, Set<String>> calls = new TreeMap<>();
    private final Set<String> ofPrivate = new HashSet<>();

    private CallsTest(Trees trees) {
        this.trees = trees;
    }

    public static void main(String[] args) throws Exception {
        JavaCompiler javac = ToolProvider.getSystemJavaCompiler();
        var files = javac.getStandardFileManager(null, null, null);
        JavacTask task = (JavacTask) javac.getTask(null, files, null, null, null,
            files.getJavaFileObjects("src/main/java/MilestoneMaids.java"));
        CompilationUnitTree unit = task.parse().iterator().next();
        task.analyze();
        CallsTest test = new CallsTest(Trees.instance(task));
        test.scan(unit, null);
        Due.is("methods with calls", test.calls.size() > 40 ? 1 : 0, 1);
        for (String method : test.calls.keySet()) {
            boolean isAgain = test.isRecursive(method);
            if (isAgain) Due.is("recursion by a private method: " + method, test.ofPrivate.contains(method) ? 1 : 0, 1);
            Due.is("eight deep at most: " + method, Math.max(8, test.depth(method, new HashSet<>())), 8);
        }
        Due.end("CallsTest");
    }

    private static String name(Element method) {
        return method.getEnclosingElement() + "." + method;
    }

    @Override public Void visitMethod(MethodTree tree, String within) {
        Element method = trees.getElement(getCurrentPath());
        calls.computeIfAbsent(name(method), none -> new TreeSet<>());
        if (method.getModifiers().contains(Modifier.PRIVATE)) ofPrivate.add(name(method));
        return super.visitMethod(tree, name(method));
    }

    @Override public Void visitMethodInvocation(MethodInvocationTree tree, String within) {
        if (within != null) calls.get(within).add(name(trees.getElement(getCurrentPath())));
        return super.visitMethodInvocation(tree, within);
    }

    @Override public Void visitNewClass(NewClassTree tree, String within) {
        if (within != null) calls.get(within).add(name(trees.getElement(getCurrentPath())));
        return super.visitNewClass(tree, within);
    }

    private Collection<String> callsOf(String method) {
        return calls.getOrDefault(method, Set.of());
    }

    private boolean isRecursive(String method) {
        Set<String> reached = new HashSet<>();
        for (String called : callsOf(method)) reach(called, reached);
        return reached.contains(method);
    }

    private void reach(String method, Set<String> reached) {
        if (!reached.add(method)) return;
        for (String called : callsOf(method)) reach(called, reached);
    }

    /** The library's calls count, too; those that are recursion do not. */
    private int depth(String method, Set<String> open) {
        if (!open.add(method)) return 0;
        int most = 0;
        for (String called : callsOf(method)) most = Math.max(most, depth(called, open));
        open.remove(method);
        return most + (isRecursive(method) ? 0 : 1);
    }
}
