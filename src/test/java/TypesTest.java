import com.sun.source.tree.*;
import com.sun.source.util.JavacTask;
import com.sun.source.util.TreePath;
import com.sun.source.util.TreePathScanner;
import com.sun.source.util.Trees;
import java.util.Set;
import javax.lang.model.element.Element;
import javax.lang.model.element.Modifier;
import javax.lang.model.type.ArrayType;
import javax.lang.model.type.TypeKind;
import javax.lang.model.type.TypeMirror;
import javax.tools.JavaCompiler;
import javax.tools.ToolProvider;

/**
 * LANGUAGE.md's rules 3, 5, 6, 7 and 10 where they hang on types: which types there are, what joins or compares
 * texts, what is cast, what divides, and that no row of the class's own constants is changed.
 */
public final class TypesTest extends TreePathScanner<Void, Void> {
    private static final Set<TypeKind> NUMBERS = Set.of(TypeKind.INT, TypeKind.LONG, TypeKind.SHORT, TypeKind.BYTE,
        TypeKind.CHAR, TypeKind.BOOLEAN);
    /** Methods in which a divisor is no constant; each tests it. */
    private static final Set<String> TESTED_DIVISORS = Set.of("lowestTerms");

    private final Trees trees;
    private int looked = 0;
    private String method = "";

    private TypesTest(Trees trees) {
        this.trees = trees;
    }

    public static void main(String[] args) throws Exception {
        JavaCompiler javac = ToolProvider.getSystemJavaCompiler();
        var files = javac.getStandardFileManager(null, null, null);
        JavacTask task = (JavacTask) javac.getTask(null, files, null, null, null,
            files.getJavaFileObjects("src/main/java/MilestoneMaids.java"));
        CompilationUnitTree unit = task.parse().iterator().next();
        task.analyze();
        TypesTest test = new TypesTest(Trees.instance(task));
        test.scan(unit, null);
        Due.is("enough looked at", test.looked > 500 ? 1 : 0, 1);
        Due.end("TypesTest");
    }

    private void check(boolean holds, String rule, Tree tree) {
        looked++;
        if (!holds) Due.is(rule + ": " + tree.toString().lines().findFirst().orElse(""), 1, 0);
    }

    private TypeMirror typeOf(Tree tree) {
        return trees.getTypeMirror(new TreePath(getCurrentPath(), tree));
    }

    private static boolean isText(TypeMirror type) {
        return type != null && type.toString().equals("java.lang.String");
    }

    private static boolean isOwnClass(TypeMirror type) {
        return type.getKind() == TypeKind.DECLARED && type.toString().startsWith("MilestoneMaids");
    }

    /** Numbers, texts, classes of its own, and rows of one dimension of numbers or of those. */
    private static boolean isAllowed(TypeMirror type) {
        if (type.getKind() == TypeKind.ARRAY) {
            TypeMirror item = ((ArrayType) type).getComponentType();
            return NUMBERS.contains(item.getKind()) || isOwnClass(item);
        }
        return NUMBERS.contains(type.getKind()) || isText(type) || isOwnClass(type);
    }

    @Override public Void visitVariable(VariableTree v, Void none) {
        check(isAllowed(typeOf(v)), "3: a type of no list", v);
        Element field = trees.getElement(getCurrentPath());
        if (field.getModifiers().contains(Modifier.STATIC)) {
            boolean isRow = typeOf(v).getKind() == TypeKind.ARRAY;
            check(field.getModifiers().contains(Modifier.FINAL), "5: static state", v);
            check(!isRow || v.getInitializer() instanceof NewArrayTree row && row.getInitializers() != null,
                "5: a row that is not written out", v);
        }
        return super.visitVariable(v, none);
    }

    @Override public Void visitMethod(MethodTree m, Void none) {
        if (m.getReturnType() != null) {
            TypeMirror type = typeOf(m.getReturnType());
            check(type.getKind() == TypeKind.VOID || isAllowed(type), "3: a type of no list", m);
        }
        check(!Set.of("equals", "hashCode", "toString").contains(m.getName().toString()), "6: of its own", m);
        method = m.getName().toString();
        return super.visitMethod(m, none);
    }

    @Override public Void visitBinary(BinaryTree b, Void none) {
        boolean isOfTexts = isText(typeOf(b.getLeftOperand())) || isText(typeOf(b.getRightOperand()));
        check(!isOfTexts, "6, 10: texts that are joined or compared by signs", b);
        if (b.getKind() == Tree.Kind.DIVIDE || b.getKind() == Tree.Kind.REMAINDER) {
            check(isConstant(b.getRightOperand()) || TESTED_DIVISORS.contains(method), "7: a divisor", b);
        }
        return super.visitBinary(b, none);
    }

    /** A number written out, above 0, or a constant of the class (all of which that divide are above 0, too). */
    private boolean isConstant(ExpressionTree e) {
        if (e instanceof LiteralTree literal) return literal.getValue() instanceof Integer n && n > 0;
        Element element = trees.getElement(new TreePath(getCurrentPath(), e));
        boolean isOfClass = element != null && element.getModifiers().contains(Modifier.STATIC);
        return isOfClass && element instanceof javax.lang.model.element.VariableElement v
            && v.getConstantValue() instanceof Integer n && n > 0;
    }

    @Override public Void visitCompoundAssignment(CompoundAssignmentTree a, Void none) {
        check(!isText(typeOf(a.getVariable())), "10: texts joined by signs", a);
        boolean divides = a.getKind() == Tree.Kind.DIVIDE_ASSIGNMENT || a.getKind() == Tree.Kind.REMAINDER_ASSIGNMENT;
        check(!divides, "7: a divisor", a);
        checkChanged(a.getVariable());
        return super.visitCompoundAssignment(a, none);
    }

    @Override public Void visitAssignment(AssignmentTree a, Void none) {
        checkChanged(a.getVariable());
        return super.visitAssignment(a, none);
    }

    @Override public Void visitUnary(UnaryTree u, Void none) {
        checkChanged(u.getExpression());
        return super.visitUnary(u, none);
    }

    private void checkChanged(ExpressionTree changed) {
        if (!(changed instanceof ArrayAccessTree item)) return;
        TreePath path = new TreePath(new TreePath(getCurrentPath(), changed), item.getExpression());
        Element row = trees.getElement(path);
        check(row != null && !row.getModifiers().contains(Modifier.STATIC), "5: a constant row that is changed", changed);
    }

    @Override public Void visitTypeCast(TypeCastTree c, Void none) {
        check(NUMBERS.contains(typeOf(c.getType()).getKind()), "6: a cast to a class", c);
        return super.visitTypeCast(c, none);
    }

    @Override public Void visitInstanceOf(InstanceOfTree i, Void none) {
        check(isOwnClass(typeOf(i.getType())), "6: instanceof", i);
        return super.visitInstanceOf(i, none);
    }
}
