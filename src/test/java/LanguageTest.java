import com.sun.source.tree.BinaryTree;
import com.sun.source.tree.CatchTree;
import com.sun.source.tree.ClassTree;
import com.sun.source.tree.DoWhileLoopTree;
import com.sun.source.tree.ExpressionTree;
import com.sun.source.tree.ForLoopTree;
import com.sun.source.tree.ImportTree;
import com.sun.source.tree.LiteralTree;
import com.sun.source.tree.MethodTree;
import com.sun.source.tree.NewClassTree;
import com.sun.source.tree.ThrowTree;
import com.sun.source.tree.Tree;
import com.sun.source.tree.Tree.Kind;
import com.sun.source.tree.TryTree;
import com.sun.source.tree.VariableTree;
import com.sun.source.tree.WhileLoopTree;
import com.sun.source.util.TreePath;
import java.io.IOException;
import java.nio.file.Files;
import java.nio.file.Paths;
import java.util.ArrayDeque;
import java.util.ArrayList;
import java.util.Deque;
import java.util.LinkedHashMap;
import java.util.LinkedHashSet;
import java.util.List;
import java.util.Map;
import java.util.Set;
import javax.lang.model.element.Element;
import javax.lang.model.element.ElementKind;
import javax.lang.model.element.ExecutableElement;
import javax.lang.model.element.Modifier;
import javax.lang.model.element.VariableElement;

/**
 * The rules of ../shared/LANGUAGE.md, looked for in the source as the compiler reads it. Where a rule
 * leaves more than the program uses, the test may leave less.
 */
public final class LanguageTest {
    private static final String EXCEPTIONS = "IllegalStateException|IllegalArgumentException|IndexOutOfBoundsException"
            + "|ArithmeticException|UnsupportedOperationException|NoSuchElementException|RuntimeException";
    private static final String OWN = "PostTariff(\\.\\w+)?";
    private static final String NUMBER = "(int|long|short|byte|char|boolean|double|float)";
    private static final String TYPES = NUMBER + "(\\[\\]){0,2}|" + OWN + "(\\[\\])?|java\\.lang\\.(String|StringBuilder)"
            + "|java\\.util\\.(Array)?List<(java\\.lang\\.Integer|" + OWN + ")>";
    private static final String LIBRARY = "java\\.lang\\.(Integer|Long|Math)\\.(compare|max|min|abs|bitCount|floorDiv|floorMod)"
            + "|java\\.lang\\.String\\.(length|charAt|isEmpty|equals|indexOf|substring|toCharArray)"
            + "|java\\.lang\\.StringBuilder\\.(append|charAt|setCharAt|setLength|deleteCharAt|reverse|length|toString)"
            + "|java\\.lang\\.System\\.arraycopy|java\\.util\\.Arrays\\.(copyOf|copyOfRange|fill)"
            + "|java\\.util\\.(Array)?List\\.(add|get|set|remove|size|isEmpty|clear|of)";
    private static final int MOST_CLASSES = 12;
    private static final int MOST_FIELDS = 20;
    private static final int MOST_PARAMETERS = 7;
    private static final int MOST_LINES = 60;
    private static final int MOST_DEPTH = 8;

    private final Check check = new Check("LanguageTest");
    private final Source source = new Source();

    private LanguageTest() throws IOException {
    }

    public static void main(String[] args) throws IOException {
        LanguageTest test = new LanguageTest();
        test.oneFileOneClass();
        test.classesInside();
        test.types();
        test.library();
        test.staticFields();
        test.throwsAndCatches();
        test.identity();
        test.calls();
        test.loops();
        test.operators();
        test.sizes();
        test.whatIsMade();
        test.signs();
        test.check.end();
    }

    private void none(String what, Kind... kinds) {
        List<TreePath> found = source.all(kinds);
        check.due(what, found.isEmpty() ? "" : source.at(found.get(0)), "");
    }

    private void oneFileOneClass() {
        check.sentence("rule 1: one file without a package line, with one public class");
        check.holds("no package", source.unit().getPackageName() == null);
        check.due("classes outside", source.unit().getTypeDecls().size(), 1);
        ClassTree whole = (ClassTree) source.unit().getTypeDecls().get(0);
        check.due("its name", whole.getSimpleName().toString(), "PostTariff");
        for (ImportTree one : source.unit().getImports()) {
            String name = one.getQualifiedIdentifier().toString();
            check.holds("import " + name, name.matches("java\\.util\\.(ArrayList|List|Arrays|Iterator|NoSuchElementException)"));
        }
    }

    private void classesInside() {
        check.sentence("rule 2: static classes inside, no lambda, no method reference, no local class");
        none("no lambda", Kind.LAMBDA_EXPRESSION);
        none("no method reference", Kind.MEMBER_REFERENCE);
        for (TreePath path : source.all(Kind.CLASS, Kind.RECORD, Kind.ENUM, Kind.INTERFACE)) {
            ClassTree one = (ClassTree) path.getLeaf();
            Set<Modifier> modifiers = one.getModifiers().getFlags();
            boolean outer = path.getParentPath().getLeaf() == source.unit();
            check.holds("static: " + one.getSimpleName(), outer || modifiers.contains(Modifier.STATIC));
            check.holds("not public: " + one.getSimpleName(), outer || !modifiers.contains(Modifier.PUBLIC));
            check.holds("in a class: " + one.getSimpleName(), outer || path.getParentPath().getLeaf() instanceof ClassTree);
        }
    }

    private void types() {
        check.sentence("rule 3: numbers, rows of them, own classes, String, StringBuilder, lists");
        for (TreePath path : source.all(Kind.VARIABLE)) {
            boolean caught = path.getParentPath().getLeaf() instanceof CatchTree;
            String type = String.valueOf(source.typeOf(path));
            check.holds(type + " of " + source.at(path), caught || type.matches(TYPES));
        }
        for (TreePath path : source.all(Kind.METHOD)) {
            String type = String.valueOf(((ExecutableElement) source.named(path)).getReturnType());
            check.holds(type + " of " + source.at(path), type.equals("void") || type.matches(TYPES));
        }
    }

    private void library() {
        check.sentence("rules 4 and 13: no library but what the rules list, so no clock, file or chance");
        for (TreePath path : source.all(Kind.METHOD_INVOCATION)) {
            Element called = source.named(path);
            String name = Source.ownerOf(called) + "." + called.getSimpleName();
            // the first call of a constructor, which the compiler puts in
            boolean implied = name.equals("java.lang.Object.<init>");
            check.holds(name + " in " + source.at(path), implied || Source.isOwn(Source.ownerOf(called)) || name.matches(LIBRARY));
        }
        for (TreePath path : source.all(Kind.IDENTIFIER, Kind.MEMBER_SELECT)) {
            Element named = source.named(path);
            if (named instanceof VariableElement && named.getKind() == ElementKind.FIELD) {
                boolean rowsLength = named.getSimpleName().contentEquals("length") && named.getEnclosingElement() == null
                        || !Source.ownerOf(named).contains(".") && !Source.isOwn(Source.ownerOf(named));
                check.holds("own field " + source.at(path), rowsLength || Source.isOwn(Source.ownerOf(named)));
            }
        }
    }

    private void staticFields() {
        check.sentence("rule 5: static fields are constants, and there is no static block");
        for (TreePath path : source.all(Kind.VARIABLE)) {
            VariableElement variable = (VariableElement) source.named(path);
            if (variable.getKind() == ElementKind.FIELD && variable.getModifiers().contains(Modifier.STATIC)) {
                check.holds("a constant: " + source.at(path), variable.getConstantValue() != null);
            }
        }
        for (TreePath path : source.all(Kind.BLOCK)) {
            check.holds("no static block", !Source.isStaticBlock(path.getLeaf()));
        }
    }

    private void throwsAndCatches() {
        check.sentence("rule 6: which exceptions, and where they are thrown and caught");
        none("no assert", Kind.ASSERT);
        none("no synchronized", Kind.SYNCHRONIZED);
        List<TreePath> tries = source.all(Kind.TRY);
        for (TreePath path : source.all(Kind.THROW)) {
            ExpressionTree thrown = ((ThrowTree) path.getLeaf()).getExpression();
            check.holds("throw new: " + source.at(path), thrown instanceof NewClassTree && isWrittenOut((NewClassTree) thrown));
            check.holds("in no constructor: " + source.at(path), !Source.nameOfMethod(path).equals("<init>"));
            for (TreePath one : tries) {
                check.holds("in no method that catches: " + source.at(path),
                        Source.methodOf(one).getLeaf() != Source.methodOf(path).getLeaf());
            }
        }
        for (TreePath path : tries) {
            TryTree one = (TryTree) path.getLeaf();
            check.holds("no finally, no resources", one.getFinallyBlock() == null && one.getResources().isEmpty());
            for (CatchTree caught : one.getCatches()) {
                String type = caught.getParameter().getType().toString();
                // what the machine throws is none of these, or below one: so these two are not caught, too
                check.holds("catch " + type, type.matches(EXCEPTIONS) && !type.matches("RuntimeException|IndexOutOf.*"));
            }
        }
    }

    private static boolean isWrittenOut(NewClassTree made) {
        boolean written = made.getArguments().isEmpty() || made.getArguments().size() == 1
                && made.getArguments().get(0) instanceof LiteralTree && made.getArguments().get(0).getKind() == Kind.STRING_LITERAL;
        return written && made.getIdentifier().toString().matches(EXCEPTIONS);
    }

    private void identity() {
        check.sentence("rule 6: no == of texts, no equals, hashCode or toString of own objects");
        for (TreePath path : source.all(Kind.EQUAL_TO, Kind.NOT_EQUAL_TO)) {
            BinaryTree both = (BinaryTree) path.getLeaf();
            String types = source.typeOf(path, both.getLeftOperand()) + " and " + source.typeOf(path, both.getRightOperand());
            check.holds(types + " in " + source.at(path), !types.matches(".*java\\.lang\\.(String|Integer).*"));
        }
        for (TreePath path : source.all(Kind.METHOD)) {
            String name = ((MethodTree) path.getLeaf()).getName().toString();
            check.holds("a method " + name, !name.matches("equals|hashCode|toString|clone|finalize"));
        }
        none("no instanceof, so that no cast needs it", Kind.INSTANCE_OF);
    }

    /** The methods and constructors that each one calls; a class's fields are made by its constructors. */
    private Map<Element, Set<Element>> callGraph() {
        Map<Element, Set<Element>> graph = new LinkedHashMap<>();
        for (TreePath path : source.all(Kind.METHOD)) {
            graph.put(source.named(path), new LinkedHashSet<>());
        }
        for (TreePath path : source.all(Kind.METHOD_INVOCATION, Kind.NEW_CLASS)) {
            Element called = source.named(path);
            if (called == null || !Source.isOwn(Source.ownerOf(called))) {
                continue;
            }
            TreePath method = Source.methodOf(path);
            if (method != null) {
                graph.computeIfAbsent(source.named(method), x -> new LinkedHashSet<>()).add(called);
                continue;
            }
            String maker = classOf(path);
            for (Map.Entry<Element, Set<Element>> entry : graph.entrySet()) {
                if (entry.getKey().getKind() == ElementKind.CONSTRUCTOR && Source.ownerOf(entry.getKey()).equals(maker)) {
                    entry.getValue().add(called);
                }
            }
        }
        return graph;
    }

    private String classOf(TreePath path) {
        TreePath outer = path;
        while (!(outer.getLeaf() instanceof ClassTree)) {
            outer = outer.getParentPath();
        }
        return source.named(outer).toString();
    }

    private void calls() {
        check.sentence("rules 8 and 11: no method calls itself, and calls go at most eight deep");
        Map<Element, Set<Element>> graph = callGraph();
        int deepest = 0;
        for (Element method : graph.keySet()) {
            int depth = depth(graph, method, new ArrayDeque<>());
            deepest = Math.max(deepest, depth);
            check.holds(method + " goes " + depth + " deep", depth <= MOST_DEPTH);
        }
        check.holds("calls are found", deepest > 3);
    }

    private static int depth(Map<Element, Set<Element>> graph, Element method, Deque<Element> open) {
        if (open.contains(method)) {
            return MOST_DEPTH + 1;
        }
        open.push(method);
        int deepest = 0;
        for (Element called : graph.getOrDefault(method, Set.of())) {
            deepest = Math.max(deepest, depth(graph, called, open));
        }
        open.pop();
        return deepest + 1;
    }

    private void loops() {
        check.sentence("rule 9: every loop has an end that its own lines show");
        List<TreePath> loops = source.all(Kind.FOR_LOOP, Kind.WHILE_LOOP, Kind.DO_WHILE_LOOP);
        for (TreePath path : loops) {
            Tree loop = path.getLeaf();
            ExpressionTree condition = loop instanceof ForLoopTree ? ((ForLoopTree) loop).getCondition()
                    : loop instanceof WhileLoopTree ? ((WhileLoopTree) loop).getCondition()
                    : ((DoWhileLoopTree) loop).getCondition();
            // one side of the comparison is a counter that the loop itself steps
            check.holds("a counter against a bound: " + source.at(path), condition != null && !condition.toString().contains("||")
                    && stepsCounterOf(loop.toString(), condition.toString()));
        }
        check.holds("loops are found", loops.size() > 3);
    }

    private static boolean stepsCounterOf(String loop, String condition) {
        for (String part : condition.split("&&")) {
            String[] sides = part.replaceAll("[()]", "").trim().split(" (<|>|<=|>=) ");
            if (sides.length == 2 && sides[0].matches("\\w+")
                    && loop.matches("(?s).*\\b" + sides[0] + "(\\+\\+|--| /= \\d+).*")) {
                return true;
            }
        }
        return false;
    }

    private void operators() {
        check.sentence("rule 10: texts are not joined by +; switch is on numbers, without patterns");
        for (TreePath path : source.all(Kind.PLUS, Kind.PLUS_ASSIGNMENT)) {
            check.holds(source.at(path), !String.valueOf(source.typeOf(path)).contains("String"));
        }
        none("no switch that answers", Kind.SWITCH_EXPRESSION);
        for (TreePath path : source.all(Kind.DOUBLE_LITERAL, Kind.FLOAT_LITERAL)) {
            check.holds("no double: " + source.at(path), false);
        }
    }

    private void sizes() {
        check.sentence("rule 11: parameters, lines, classes and fields");
        for (TreePath path : source.all(Kind.METHOD)) {
            MethodTree method = (MethodTree) path.getLeaf();
            check.holds("parameters of " + method.getName(), method.getParameters().size() <= MOST_PARAMETERS);
            check.holds("lines of " + method.getName(), source.lines(path) <= MOST_LINES);
        }
        List<TreePath> classes = source.all(Kind.CLASS, Kind.RECORD, Kind.ENUM, Kind.INTERFACE);
        check.holds("classes: " + classes.size(), classes.size() > 1 && classes.size() <= MOST_CLASSES);
        for (TreePath path : classes) {
            int fields = 0;
            for (Tree member : ((ClassTree) path.getLeaf()).getMembers()) {
                boolean field = member instanceof VariableTree;
                fields += field && !((VariableTree) member).getModifiers().getFlags().contains(Modifier.STATIC) ? 1 : 0;
            }
            check.holds("fields of " + ((ClassTree) path.getLeaf()).getSimpleName(), fields <= MOST_FIELDS);
        }
    }

    /** An exception is made where it is thrown; an item is what the caller adds, and counted. */
    private void whatIsMade() {
        check.sentence("rule 12: nothing is made but in constructors, with the fields, and an item");
        for (TreePath path : source.all(Kind.NEW_CLASS, Kind.NEW_ARRAY)) {
            String method = Source.nameOfMethod(path);
            boolean thrown = path.getParentPath().getLeaf() instanceof ThrowTree;
            check.holds(source.at(path), thrown || method.isEmpty() || method.equals("<init>") || method.equals("item"));
        }
    }

    private void signs() throws IOException {
        check.sentence("rule 4: the file's signs are 1 to 127");
        for (byte sign : Files.readAllBytes(Paths.get(Source.FILE))) {
            if (sign <= 0) {
                check.holds("a sign " + sign, false);
            }
        }
        check.holds("the file is there", Files.size(Paths.get(Source.FILE)) > 0);
        List<String> literals = new ArrayList<>();
        for (TreePath path : source.all(Kind.STRING_LITERAL)) {
            literals.add(path.getLeaf().toString());
        }
        check.holds("few texts: " + literals, literals.size() <= 2);
    }
}
