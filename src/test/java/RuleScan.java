import com.sun.source.tree.AssertTree;
import com.sun.source.tree.BinaryTree;
import com.sun.source.tree.BlockTree;
import com.sun.source.tree.ClassTree;
import com.sun.source.tree.CompilationUnitTree;
import com.sun.source.tree.CompoundAssignmentTree;
import com.sun.source.tree.DoWhileLoopTree;
import com.sun.source.tree.ExpressionTree;
import com.sun.source.tree.ForLoopTree;
import com.sun.source.tree.ImportTree;
import com.sun.source.tree.LambdaExpressionTree;
import com.sun.source.tree.LiteralTree;
import com.sun.source.tree.MemberReferenceTree;
import com.sun.source.tree.MethodInvocationTree;
import com.sun.source.tree.MethodTree;
import com.sun.source.tree.NewArrayTree;
import com.sun.source.tree.NewClassTree;
import com.sun.source.tree.SynchronizedTree;
import com.sun.source.tree.ThrowTree;
import com.sun.source.tree.Tree;
import com.sun.source.tree.TryTree;
import com.sun.source.tree.VariableTree;
import com.sun.source.tree.WhileLoopTree;
import com.sun.source.util.TreePath;
import com.sun.source.util.TreePathScanner;
import com.sun.source.util.Trees;
import java.util.Set;
import javax.lang.model.element.Element;
import javax.lang.model.element.Modifier;

/** Looks at each part of HostPacker.java and tells what a rule of LANGUAGE.md forbids. */
final class RuleScan extends TreePathScanner<Void, Void> {
    private static final int MOST_PARAMETERS = 7;
    private static final int MOST_LINES = 60;
    private static final int MOST_FIELDS = 20;
    private static final String NUMBER = "(int|long|short|byte|char|boolean|double|float)";
    private static final String OWN = "(HostPacker(\\.\\w+)?|java\\.lang\\.(String|StringBuilder))";
    private static final String STATIC_TYPE = "(int|long|char|boolean|java\\.lang\\.String|(int|long|char|byte)\\[\\])";
    private static final Set<String> OBJECT_NAMES = Set.of("equals", "hashCode", "toString");
    private static final Set<String> IMPORTS = Set.of("java.util.Arrays", "java.util.ArrayList",
            "java.util.List", "java.util.Iterator");
    private static final String LIBRARY = "java\\.lang\\.String\\.(length|charAt|isEmpty|equals|"
            + "indexOf|substring|toCharArray)|java\\.lang\\.StringBuilder\\.(append|charAt|setCharAt|"
            + "setLength|deleteCharAt|reverse|length|toString)|java\\.util\\.(ArrayList|List)\\.(add|"
            + "get|set|remove|size|isEmpty|clear|of)|java\\.lang\\.(Integer|Long|Math)\\.(compare|max|"
            + "min|abs|signum|bitCount|floorDiv|floorMod|numberOfLeadingZeros|numberOfTrailingZeros|"
            + "highestOneBit|lowestOneBit)|java\\.lang\\.System\\.arraycopy|"
            + "java\\.util\\.Arrays\\.(copyOf|copyOfRange|fill)|java\\.lang\\.Object\\.<init>";

    private final Trees trees;
    private final CompilationUnitTree unit;
    private final Calls calls = new Calls();
    private int classes;

    RuleScan(Trees trees, CompilationUnitTree unit) {
        this.trees = trees;
        this.unit = unit;
    }

    Calls calls() {
        return calls;
    }

    int classes() {
        return classes;
    }

    private void keeps(int rule, Tree tree, String what, boolean holds) {
        long at = trees.getSourcePositions().getStartPosition(unit, tree);
        Check.due("rule " + rule + ", line " + unit.getLineMap().getLineNumber(at) + ": " + what, holds);
    }

    private void banned(Tree tree, String what) {
        keeps(6, tree, "no " + what, false);
    }

    private int lines(Tree tree) {
        long start = trees.getSourcePositions().getStartPosition(unit, tree);
        long end = trees.getSourcePositions().getEndPosition(unit, tree);
        return (int) (unit.getLineMap().getLineNumber(end) - unit.getLineMap().getLineNumber(start) + 1);
    }

    private String typeOf(Tree tree) {
        TreePath path = TreePath.getPath(unit, tree);
        return path == null || trees.getTypeMirror(path) == null ? "" : trees.getTypeMirror(path).toString();
    }

    private static String nameOf(Element method) {
        return method.getEnclosingElement() + "." + method.getSimpleName();
    }

    /** The nearest of these above the current part, or null. */
    private Tree above(Set<Tree.Kind> kinds) {
        for (TreePath path = getCurrentPath().getParentPath(); path != null; path = path.getParentPath()) {
            if (kinds.contains(path.getLeaf().getKind())) {
                return path.getLeaf();
            }
        }
        return null;
    }

    private Tree parent() {
        return getCurrentPath().getParentPath().getLeaf();
    }

    @Override
    public Void visitImport(ImportTree tree, Void none) {
        keeps(4, tree, "import", !tree.isStatic()
                && IMPORTS.contains(tree.getQualifiedIdentifier().toString()));
        return super.visitImport(tree, none);
    }

    @Override
    public Void visitClass(ClassTree tree, Void none) {
        classes++;
        boolean isTop = parent() instanceof CompilationUnitTree;
        Set<Modifier> modifiers = tree.getModifiers().getFlags();
        keeps(1, tree, "one public class", isTop == modifiers.contains(Modifier.PUBLIC));
        keeps(2, tree, "classes inside stand in the public one, static",
                isTop || modifiers.contains(Modifier.STATIC) && parent() instanceof ClassTree);
        int fields = 0;
        for (Tree member : tree.getMembers()) {
            boolean isStatic = member instanceof VariableTree
                    && ((VariableTree) member).getModifiers().getFlags().contains(Modifier.STATIC);
            fields += member instanceof VariableTree && !isStatic ? 1 : 0;
            keeps(5, member, "no initialiser block", !(member instanceof BlockTree));
        }
        keeps(11, tree, "fields " + fields, fields <= MOST_FIELDS);
        return super.visitClass(tree, none);
    }

    @Override
    public Void visitMethod(MethodTree tree, Void none) {
        String name = nameOf(trees.getElement(getCurrentPath()));
        calls.addMethod(name);
        keeps(11, tree, name + " takes at most seven",
                tree.getParameters().size() <= MOST_PARAMETERS || name.equals("HostPacker.job"));
        keeps(11, tree, name + " is short", lines(tree) <= MOST_LINES);
        keeps(6, tree, name + " throws nothing", tree.getThrows().isEmpty());
        keeps(6, tree, name + " is not Object's", !OBJECT_NAMES.contains(tree.getName().toString()));
        super.visitMethod(tree, none);
        keeps(8, tree, name + " calls itself only if private and static", !calls.callsItself(name)
                || tree.getModifiers().getFlags().containsAll(Set.of(Modifier.PRIVATE, Modifier.STATIC)));
        return null;
    }

    @Override
    public Void visitVariable(VariableTree tree, Void none) {
        String type = typeOf(tree);
        keeps(3, tree, "type " + type, type.matches(NUMBER + "(\\[\\]){0,2}|" + OWN + "(\\[\\])?"));
        Set<Modifier> modifiers = tree.getModifiers().getFlags();
        if (parent() instanceof ClassTree && modifiers.contains(Modifier.STATIC)) {
            keeps(5, tree, tree.getName() + " is a constant",
                    modifiers.contains(Modifier.FINAL) && type.matches(STATIC_TYPE));
        }
        return super.visitVariable(tree, none);
    }

    @Override
    public Void visitMethodInvocation(MethodInvocationTree tree, Void none) {
        Element called = trees.getElement(getCurrentPath());
        String name = nameOf(called);
        if (!name.startsWith("HostPacker")) {
            keeps(4, tree, name, name.matches(LIBRARY));
        } else {
            noteCall(name);
        }
        return super.visitMethodInvocation(tree, none);
    }

    /** What is made where a field is told counts as made by the constructor. */
    private void noteCall(String called) {
        Tree method = above(Set.of(Tree.Kind.METHOD));
        if (method != null) {
            calls.addCall(nameOf(trees.getElement(TreePath.getPath(unit, method))), called);
        }
    }

    @Override
    public Void visitNewClass(NewClassTree tree, Void none) {
        keeps(2, tree, "no class without a name", tree.getClassBody() == null);
        isMadeOnce(tree);
        Element made = trees.getElement(getCurrentPath());
        noteCall(nameOf(made));
        return super.visitNewClass(tree, none);
    }

    @Override
    public Void visitNewArray(NewArrayTree tree, Void none) {
        isMadeOnce(tree);
        return super.visitNewArray(tree, none);
    }

    /** Stricter than rule 12: all that an object needs is made with it, and no call makes more. */
    private void isMadeOnce(Tree tree) {
        Tree method = above(Set.of(Tree.Kind.METHOD));
        boolean isInConstructor = method != null && ((MethodTree) method).getReturnType() == null;
        keeps(12, tree, "made by a constructor", method == null || isInConstructor);
        keeps(12, tree, "made in no loop", above(Set.of(Tree.Kind.FOR_LOOP, Tree.Kind.WHILE_LOOP,
                Tree.Kind.DO_WHILE_LOOP, Tree.Kind.ENHANCED_FOR_LOOP)) == null);
    }

    private void hasAnEnd(Tree loop, ExpressionTree condition) {
        keeps(9, loop, "the loop looks whether to go on",
                condition != null && condition.toString().matches(".*[<>].*"));
    }

    @Override
    public Void visitForLoop(ForLoopTree tree, Void none) {
        hasAnEnd(tree, tree.getCondition());
        return super.visitForLoop(tree, none);
    }

    @Override
    public Void visitWhileLoop(WhileLoopTree tree, Void none) {
        hasAnEnd(tree, tree.getCondition());
        return super.visitWhileLoop(tree, none);
    }

    @Override
    public Void visitDoWhileLoop(DoWhileLoopTree tree, Void none) {
        hasAnEnd(tree, tree.getCondition());
        return super.visitDoWhileLoop(tree, none);
    }

    @Override
    public Void visitBinary(BinaryTree tree, Void none) {
        Tree.Kind kind = tree.getKind();
        String left = typeOf(tree.getLeftOperand());
        String right = typeOf(tree.getRightOperand());
        boolean joins = kind == Tree.Kind.PLUS && (left + right).contains("String");
        keeps(10, tree, "no text joined by +", !joins);
        boolean compares = kind == Tree.Kind.EQUAL_TO || kind == Tree.Kind.NOT_EQUAL_TO;
        keeps(6, tree, "no texts or Integers compared by ==",
                !compares || !(left + right).matches(".*java\\.lang\\.(String|Integer).*"));
        if (kind == Tree.Kind.DIVIDE || kind == Tree.Kind.REMAINDER) {
            divides(tree, tree.getRightOperand());
        }
        return super.visitBinary(tree, none);
    }

    @Override
    public Void visitCompoundAssignment(CompoundAssignmentTree tree, Void none) {
        Tree.Kind kind = tree.getKind();
        keeps(10, tree, "no text joined by +=", !typeOf(tree.getVariable()).contains("String"));
        if (kind == Tree.Kind.DIVIDE_ASSIGNMENT || kind == Tree.Kind.REMAINDER_ASSIGNMENT) {
            divides(tree, tree.getExpression());
        }
        return super.visitCompoundAssignment(tree, none);
    }

    /** Stricter than rule 7: no divisor that would have to be tested first. */
    private void divides(Tree tree, ExpressionTree divisor) {
        keeps(7, tree, "divides by a number that stands there, not 0",
                divisor instanceof LiteralTree && !divisor.toString().equals("0"));
    }

    @Override
    public Void visitThrow(ThrowTree tree, Void none) {
        banned(tree, "throw");
        return super.visitThrow(tree, none);
    }

    @Override
    public Void visitTry(TryTree tree, Void none) {
        banned(tree, "try");
        return super.visitTry(tree, none);
    }

    @Override
    public Void visitSynchronized(SynchronizedTree tree, Void none) {
        banned(tree, "synchronized");
        return super.visitSynchronized(tree, none);
    }

    @Override
    public Void visitAssert(AssertTree tree, Void none) {
        banned(tree, "assert");
        return super.visitAssert(tree, none);
    }

    @Override
    public Void visitLambdaExpression(LambdaExpressionTree tree, Void none) {
        keeps(2, tree, "no lambda", false);
        return super.visitLambdaExpression(tree, none);
    }

    @Override
    public Void visitMemberReference(MemberReferenceTree tree, Void none) {
        keeps(2, tree, "no method reference", false);
        return super.visitMemberReference(tree, none);
    }
}
