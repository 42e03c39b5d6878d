import com.sun.source.tree.*;
import com.sun.source.util.JavacTask;
import com.sun.source.util.TreeScanner;
import java.nio.file.Files;
import java.nio.file.Path;
import java.util.ArrayList;
import java.util.HashSet;
import java.util.List;
import java.util.Set;
import javax.lang.model.element.Modifier;
import javax.tools.JavaCompiler;
import javax.tools.ToolProvider;

/**
 * Those of LANGUAGE.md's rules that can be read off the source: each breach is told with what breaks it.
 * Narrower than the rules in that loops are counted ones alone, and that hardly any call makes an object.
 */
public final class LanguageTest extends TreeScanner<Void, Void> {
    private static final Path SOURCE = Path.of("src/main/java/MilestoneMaids.java");
    private static final Set<Tree.Kind> FORBIDDEN = Set.of(Tree.Kind.THROW, Tree.Kind.TRY, Tree.Kind.CATCH,
        Tree.Kind.SYNCHRONIZED, Tree.Kind.ASSERT, Tree.Kind.LAMBDA_EXPRESSION, Tree.Kind.MEMBER_REFERENCE,
        Tree.Kind.IMPORT, Tree.Kind.PACKAGE, Tree.Kind.WHILE_LOOP, Tree.Kind.DO_WHILE_LOOP);
    /** What the class calls of the library; a name that is not of its own must stand here. */
    private static final Set<String> LIBRARY = Set.of("arraycopy", "bitCount", "min", "charAt", "length", "super");

    private final CompilationUnitTree unit;
    private final Set<String> publicNames = new HashSet<>();
    private final Set<String> ownNames = new HashSet<>();
    private final List<ClassTree> open = new ArrayList<>();
    private int classes = 0;
    private String method = "";

    private LanguageTest(CompilationUnitTree unit) {
        this.unit = unit;
    }

    public static void main(String[] args) throws Exception {
        JavaCompiler javac = ToolProvider.getSystemJavaCompiler();
        var files = javac.getStandardFileManager(null, null, null);
        JavacTask task = (JavacTask) javac.getTask(null, files, null, null, null, files.getJavaFileObjects(SOURCE));
        CompilationUnitTree unit = task.parse().iterator().next();
        LanguageTest test = new LanguageTest(unit);
        test.learnNames();
        test.scan(unit, null);
        Due.is("classes in the file, twelve at most", test.classes <= 12 ? 1 : 0, 1);
        for (int i = 0; i < 128; i++) {
            boolean isSign = i >= 32 && i < 127 || i == '\n';
            if (!isSign) Due.is("sign " + i, Files.readString(SOURCE).indexOf(i), -1);
        }
        Due.end("LanguageTest");
    }

    private void learnNames() {
        new TreeScanner<Void, Void>() {
            @Override public Void visitMethod(MethodTree m, Void none) {
                ownNames.add(m.getName().toString());
                if (has(m.getModifiers(), Modifier.PUBLIC)) publicNames.add(m.getName().toString());
                return super.visitMethod(m, none);
            }
        }.scan(unit, null);
        Due.is("public methods and the constructor", publicNames.size(), 40);
    }

    private static boolean has(ModifiersTree modifiers, Modifier modifier) {
        return modifiers.getFlags().contains(modifier);
    }

    private void breach(Tree tree, String what) {
        String line = tree.toString().replace('\n', ' ');
        Due.is(what + ": " + line.substring(0, Math.min(90, line.length())), 1, 0);
    }

    @Override public Void scan(Tree tree, Void none) {
        if (tree != null && FORBIDDEN.contains(tree.getKind())) breach(tree, "not of this language");
        return super.scan(tree, none);
    }

    @Override public Void visitClass(ClassTree c, Void none) {
        classes++;
        boolean isOuter = open.isEmpty();
        if (isOuter && !has(c.getModifiers(), Modifier.FINAL)) breach(c, "the face is not final");
        if (!isOuter && !has(c.getModifiers(), Modifier.STATIC)) breach(c, "an inner class");
        if (!isOuter && has(c.getModifiers(), Modifier.PUBLIC)) breach(c, "a second public class");
        long fields = c.getMembers().stream().filter(m -> m instanceof VariableTree v
            && !has(v.getModifiers(), Modifier.STATIC)).count();
        if (fields > 20) breach(c, "more than twenty fields");
        open.add(c);
        super.visitClass(c, none);
        open.remove(open.size() - 1);
        return null;
    }

    @Override public Void visitMethod(MethodTree m, Void none) {
        boolean isOuter = open.size() == 1;
        boolean isPublic = has(m.getModifiers(), Modifier.PUBLIC);
        String name = m.getName().toString();
        if (isOuter && !isPublic && !has(m.getModifiers(), Modifier.PRIVATE)) breach(m, "neither public nor private");
        if (!isOuter && isPublic) breach(m, "public within");
        if (!isPublic && publicNames.contains(name) && !name.equals("<init>")) breach(m, "a public one's name");
        if (m.getParameters().size() > 7) breach(m, "more than seven parameters");
        if (m.toString().lines().count() > 60) breach(m, "more than sixty lines");
        method = name;
        super.visitMethod(m, none);
        method = "";
        return null;
    }

    @Override public Void visitVariable(VariableTree v, Void none) {
        boolean isStatic = has(v.getModifiers(), Modifier.STATIC);
        if (isStatic && !has(v.getModifiers(), Modifier.FINAL)) breach(v, "static state");
        if (isStatic && open.size() == 1 && !has(v.getModifiers(), Modifier.PUBLIC)
            && !has(v.getModifiers(), Modifier.PRIVATE)) breach(v, "a constant that is package-visible");
        return super.visitVariable(v, none);
    }

    @Override public Void visitMethodInvocation(MethodInvocationTree call, Void none) {
        ExpressionTree select = call.getMethodSelect();
        String name = select instanceof MemberSelectTree s ? s.getIdentifier().toString() : select.toString();
        if (!ownNames.contains(name) && !LIBRARY.contains(name)) breach(call, "no library");
        return super.visitMethodInvocation(call, none);
    }

    @Override public Void visitNewClass(NewClassTree made, Void none) {
        checkMaking(made);
        return super.visitNewClass(made, none);
    }

    @Override public Void visitNewArray(NewArrayTree made, Void none) {
        if (made.getType() != null) checkMaking(made);
        return super.visitNewArray(made, none);
    }

    /** All that lasts is made in constructors; of the calls only way() makes anything, six times at most. */
    private void checkMaking(Tree made) {
        if (!method.isEmpty() && !method.equals("<init>") && !method.equals("newWay")) breach(made, "made in " + method);
    }
}
