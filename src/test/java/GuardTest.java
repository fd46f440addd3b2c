import com.sun.source.tree.ArrayAccessTree;
import com.sun.source.tree.BinaryTree;
import com.sun.source.tree.BlockTree;
import com.sun.source.tree.CompoundAssignmentTree;
import com.sun.source.tree.ConditionalExpressionTree;
import com.sun.source.tree.ExpressionTree;
import com.sun.source.tree.ForLoopTree;
import com.sun.source.tree.IfTree;
import com.sun.source.tree.LiteralTree;
import com.sun.source.tree.MemberSelectTree;
import com.sun.source.tree.MethodInvocationTree;
import com.sun.source.tree.MethodTree;
import com.sun.source.tree.NewArrayTree;
import com.sun.source.tree.NewClassTree;
import com.sun.source.tree.ParenthesizedTree;
import com.sun.source.tree.StatementTree;
import com.sun.source.tree.Tree;
import com.sun.source.tree.Tree.Kind;
import com.sun.source.tree.TypeCastTree;
import com.sun.source.tree.VariableTree;
import com.sun.source.util.TreePath;
import java.io.IOException;
import java.util.ArrayList;
import java.util.HashSet;
import java.util.List;
import java.util.Set;
import javax.lang.model.element.Element;
import javax.lang.model.element.ElementKind;
import javax.lang.model.element.ExecutableElement;
import javax.lang.model.element.Modifier;
import javax.lang.model.element.VariableElement;
import javax.lang.model.type.TypeKind;

/**
 * That the machine itself never throws: in the source, each index, divisor and reference is one that the
 * lines around it have tested, each row's length is written out, and no reference is cast.
 */
public final class GuardTest {
    private final Check check = new Check("GuardTest");
    private final Source source = new Source();
    /** Parameters that their method uses without a test, so that each caller has to have made it. */
    private final Set<Element> trusted = new HashSet<>();

    private GuardTest() throws IOException {
    }

    public static void main(String[] args) throws IOException {
        GuardTest test = new GuardTest();
        test.findTrusted();
        test.indexes();
        test.divisors();
        test.lengths();
        test.casts();
        test.references();
        test.arguments();
        test.check.end();
    }

    /** What the lines around a tree have tested, as "i >= 0": it holds where the tree stands. */
    private static Set<String> known(TreePath path) {
        Set<String> known = new HashSet<>();
        for (TreePath inner = path; inner.getParentPath() != null; inner = inner.getParentPath()) {
            Tree outer = inner.getParentPath().getLeaf();
            if (outer instanceof MethodTree) {
                break;
            }
            addKnown(known, outer, inner.getLeaf());
        }
        return known;
    }

    private static void addKnown(Set<String> known, Tree outer, Tree inner) {
        if (outer instanceof ConditionalExpressionTree) {
            ConditionalExpressionTree choice = (ConditionalExpressionTree) outer;
            addBranch(known, choice.getCondition(), inner == choice.getTrueExpression(), inner == choice.getFalseExpression());
        } else if (outer instanceof IfTree) {
            IfTree choice = (IfTree) outer;
            addBranch(known, choice.getCondition(), inner == choice.getThenStatement(), inner == choice.getElseStatement());
        } else if (outer instanceof ForLoopTree) {
            addLoop(known, (ForLoopTree) outer, inner);
        } else if (outer.getKind() == Kind.CONDITIONAL_AND || outer.getKind() == Kind.CONDITIONAL_OR) {
            BinaryTree both = (BinaryTree) outer;
            boolean right = inner == both.getRightOperand();
            boolean and = outer.getKind() == Kind.CONDITIONAL_AND;
            addBranch(known, both.getLeftOperand(), right && and, right && !and);
        } else if (outer instanceof BlockTree) {
            addBefore(known, (BlockTree) outer, inner);
        }
    }

    private static void addBranch(Set<String> known, ExpressionTree condition, boolean ifTrue, boolean ifFalse) {
        if (ifTrue) {
            addParts(known, condition, Kind.CONDITIONAL_AND, true);
        } else if (ifFalse) {
            addParts(known, condition, Kind.CONDITIONAL_OR, false);
        }
    }

    private static void addLoop(Set<String> known, ForLoopTree loop, Tree inner) {
        if (inner == loop.getStatement() || loop.getUpdate().contains(inner)) {
            addParts(known, loop.getCondition(), Kind.CONDITIONAL_AND, true);
        }
        for (StatementTree first : loop.getInitializer()) {
            String text = first.toString();
            boolean stepsUp = !loop.getUpdate().isEmpty() && loop.getUpdate().get(0).toString().matches("\\w+\\+\\+;?");
            if (text.matches("int \\w+ = 0") && stepsUp && inner != first) {
                known.add(text.split(" ")[1] + " >= 0");
            }
        }
    }

    /** Statements before it in a block that return if something is so: behind them it is not. */
    private static void addBefore(Set<String> known, BlockTree block, Tree inner) {
        for (StatementTree statement : block.getStatements()) {
            if (statement == inner) {
                return;
            }
            if (statement instanceof IfTree && ((IfTree) statement).getElseStatement() == null) {
                IfTree choice = (IfTree) statement;
                String text = choice.getThenStatement().toString().strip();
                if (text.matches("(?s)\\{.*\\breturn\\b[^;]*;\\s*\\}") || text.startsWith("return")) {
                    addParts(known, choice.getCondition(), Kind.CONDITIONAL_OR, false);
                }
            }
        }
    }

    private static void addParts(Set<String> known, ExpressionTree condition, Kind parting, boolean asIs) {
        ExpressionTree bare = condition;
        while (bare instanceof ParenthesizedTree) {
            bare = ((ParenthesizedTree) bare).getExpression();
        }
        if (bare.getKind() == parting) {
            addParts(known, ((BinaryTree) bare).getLeftOperand(), parting, asIs);
            addParts(known, ((BinaryTree) bare).getRightOperand(), parting, asIs);
            return;
        }
        known.add(asIs ? bare.toString() : turned(bare.toString()));
    }

    private static String turned(String condition) {
        String[][] turns = {{" == ", " != "}, {" != ", " == "}, {" < ", " >= "}, {" >= ", " < "}, {" > ", " <= "}, {" <= ", " > "}};
        for (String[] turn : turns) {
            if (condition.contains(turn[0])) {
                return condition.replace(turn[0], turn[1]);
            }
        }
        return "!" + condition;
    }

    private void indexes() {
        check.sentence("an array's index is tested before it is used, on both sides");
        for (TreePath path : source.all(Kind.ARRAY_ACCESS)) {
            ArrayAccessTree access = (ArrayAccessTree) path.getLeaf();
            String index = access.getIndex().toString();
            String row = access.getExpression().toString();
            Set<String> known = known(path);
            check.holds(index + " >= 0 at " + source.at(path), known.contains(index + " >= 0"));
            check.holds(index + " < " + row + ".length at " + source.at(path), known.contains(index + " < " + row + ".length"));
            check.holds(row + " is there at " + source.at(path), isThere(new TreePath(path, access.getExpression())));
        }
    }

    private void divisors() {
        check.sentence("a divisor is tested before it divides");
        for (TreePath path : source.all(Kind.DIVIDE, Kind.REMAINDER, Kind.DIVIDE_ASSIGNMENT, Kind.REMAINDER_ASSIGNMENT)) {
            ExpressionTree divisor = path.getLeaf() instanceof BinaryTree ? ((BinaryTree) path.getLeaf()).getRightOperand()
                    : ((CompoundAssignmentTree) path.getLeaf()).getExpression();
            boolean written = divisor instanceof LiteralTree && !divisor.toString().equals("0");
            check.holds(source.at(path), written || known(path).contains(divisor + " > 0"));
        }
    }

    private void lengths() {
        check.sentence("a row's length is a constant above 0");
        for (TreePath path : source.all(Kind.NEW_ARRAY)) {
            for (ExpressionTree length : ((NewArrayTree) path.getLeaf()).getDimensions()) {
                check.holds("the length of " + source.at(path), isConstantAboveZero(path, length));
            }
        }
    }

    private boolean isConstantAboveZero(TreePath path, ExpressionTree length) {
        if (length.getKind() == Kind.PLUS) {
            BinaryTree sum = (BinaryTree) length;
            return isConstantAboveZero(path, sum.getLeftOperand()) && isConstantAboveZero(path, sum.getRightOperand());
        }
        Element named = source.named(new TreePath(path, length));
        Object value = length instanceof LiteralTree ? ((LiteralTree) length).getValue()
                : named instanceof VariableElement ? ((VariableElement) named).getConstantValue() : null;
        return value instanceof Integer && (Integer) value > 0;
    }

    private void casts() {
        check.sentence("no reference is cast");
        for (TreePath path : source.all(Kind.TYPE_CAST)) {
            check.holds(source.at(path), source.typeOf(path, ((TypeCastTree) path.getLeaf()).getType()).getKind().isPrimitive());
        }
    }

    /** A reference that can't be null: one that is made in its place, tested, or a caller's to test. */
    private boolean isThere(TreePath path) {
        Tree tree = path.getLeaf();
        if (tree instanceof NewClassTree || tree.toString().equals("this") || tree.toString().equals("super")) {
            return true;
        }
        Element named = source.named(path);
        return isMadeInItsPlace(named) || trusted.contains(named) || known(path).contains(tree + " != null");
    }

    private boolean isMadeInItsPlace(Element named) {
        if (named == null || named.getKind() != ElementKind.FIELD || !named.getModifiers().contains(Modifier.FINAL)) {
            return false;
        }
        for (TreePath path : source.all(Kind.VARIABLE)) {
            if (named.equals(source.named(path))) {
                ExpressionTree first = ((VariableTree) path.getLeaf()).getInitializer();
                return first instanceof NewClassTree || first instanceof NewArrayTree;
            }
        }
        return false;
    }

    /** The reference of x.y and of x.m(), if x is one; null for what stands in a class or for a class's own. */
    private TreePath referenceOf(TreePath path) {
        ExpressionTree of = ((MemberSelectTree) path.getLeaf()).getExpression();
        TreePath reference = new TreePath(path, of);
        Element named = source.named(reference);
        boolean type = named != null && (named.getKind().isClass() || named.getKind().isInterface()
                || named.getKind() == ElementKind.PACKAGE);
        return type ? null : reference;
    }

    private void references() {
        check.sentence("a reference that may be null is tested before it is used");
        int found = 0;
        for (TreePath path : source.all(Kind.MEMBER_SELECT)) {
            TreePath reference = referenceOf(path);
            if (reference != null) {
                check.holds(reference.getLeaf() + " is there at " + source.at(path), isThere(reference));
                found++;
            }
        }
        check.holds("references are found", found > 50);
    }

    private void arguments() {
        check.sentence("what a method uses without a test is tested by its callers");
        for (TreePath path : source.all(Kind.METHOD_INVOCATION, Kind.NEW_CLASS)) {
            Element called = source.named(path);
            if (!(called instanceof ExecutableElement)) {
                continue;
            }
            List<? extends ExpressionTree> arguments = argumentsOf(path.getLeaf());
            List<? extends VariableElement> parameters = ((ExecutableElement) called).getParameters();
            for (int i = 0; i < arguments.size() && i < parameters.size(); i++) {
                if (trusted.contains(parameters.get(i))) {
                    check.holds(arguments.get(i) + " is there at " + source.at(path), isThere(new TreePath(path, arguments.get(i))));
                }
            }
        }
    }

    private static List<? extends ExpressionTree> argumentsOf(Tree call) {
        return call instanceof NewClassTree ? ((NewClassTree) call).getArguments()
                : ((MethodInvocationTree) call).getArguments();
    }

    /** None of the face's: its parameters are numbers. */
    private void findTrusted() {
        for (TreePath path : source.all(Kind.MEMBER_SELECT)) {
            TreePath reference = referenceOf(path);
            if (reference != null) {
                trust(reference);
            }
        }
        int before = -1;
        while (before < trusted.size()) {
            before = trusted.size();
            trustArguments();
        }
        List<String> names = new ArrayList<>();
        for (Element one : trusted) {
            names.add(one.getSimpleName().toString());
            boolean ofFace = one.getEnclosingElement().getModifiers().contains(Modifier.PUBLIC);
            check.due("a public method's parameter " + one, ofFace ? 1 : 0, 0);
        }
        check.holds("some parameters are used without a test: " + names, !names.isEmpty());
    }

    private void trustArguments() {
        for (TreePath path : source.all(Kind.METHOD_INVOCATION, Kind.NEW_CLASS)) {
            Element called = source.named(path);
            if (called instanceof ExecutableElement) {
                List<? extends VariableElement> parameters = ((ExecutableElement) called).getParameters();
                List<? extends ExpressionTree> arguments = argumentsOf(path.getLeaf());
                for (int i = 0; i < arguments.size() && i < parameters.size(); i++) {
                    if (trusted.contains(parameters.get(i))) {
                        trust(new TreePath(path, arguments.get(i)));
                    }
                }
            }
        }
    }

    private void trust(TreePath reference) {
        Element named = source.named(reference);
        boolean parameter = named != null && named.getKind() == ElementKind.PARAMETER
                && (named.asType().getKind() == TypeKind.DECLARED || named.asType().getKind() == TypeKind.ARRAY);
        if (parameter && !known(reference).contains(reference.getLeaf() + " != null")) {
            trusted.add(named);
        }
    }
}
