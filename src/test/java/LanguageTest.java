import com.sun.source.tree.ArrayAccessTree;
import com.sun.source.tree.BinaryTree;
import com.sun.source.tree.ClassTree;
import com.sun.source.tree.CompilationUnitTree;
import com.sun.source.tree.ExpressionTree;
import com.sun.source.tree.ForLoopTree;
import com.sun.source.tree.LiteralTree;
import com.sun.source.tree.MethodInvocationTree;
import com.sun.source.tree.MethodTree;
import com.sun.source.tree.NewArrayTree;
import com.sun.source.tree.NewClassTree;
import com.sun.source.tree.ThrowTree;
import com.sun.source.tree.Tree;
import com.sun.source.tree.TypeCastTree;
import com.sun.source.tree.VariableTree;
import com.sun.source.util.JavacTask;
import com.sun.source.util.TreePath;
import com.sun.source.util.TreePathScanner;
import com.sun.source.util.Trees;
import java.io.IOException;
import java.nio.file.Files;
import java.nio.file.Path;
import java.util.ArrayList;
import java.util.HashMap;
import java.util.LinkedHashSet;
import java.util.List;
import java.util.Map;
import java.util.Set;
import java.util.TreeSet;
import javax.lang.model.element.Element;
import javax.lang.model.element.ElementKind;
import javax.lang.model.element.Modifier;
import javax.lang.model.element.VariableElement;
import javax.tools.JavaCompiler;
import javax.tools.StandardJavaFileManager;
import javax.tools.ToolProvider;

/**
 * The class keeps to ../shared/LANGUAGE.md, rule by rule, as the compiler reads its source. What the class does not use
 * today is refused, though a rule may allow it: whoever needs it looks the rule up first. Rule 1 is left to FaceTest.
 */
public final class LanguageTest extends TreePathScanner<Void, Void> {
    private static final int MOST_LINES = 60;
    private static final int MOST_PARAMETERS = 7;
    private static final int MOST_CLASSES = 12;
    private static final int MOST_FIELDS = 20;
    private static final int MOST_CALLS_DEEP = 8;
    private static final Set<String> KINDS = Set.of("AND", "AND_ASSIGNMENT", "ARRAY_ACCESS", "ARRAY_TYPE",
        "ASSIGNMENT", "BLOCK", "BOOLEAN_LITERAL", "CASE", "CLASS", "COMPILATION_UNIT", "CONDITIONAL_AND",
        "CONDITIONAL_EXPRESSION", "CONDITIONAL_OR", "DIVIDE", "EQUAL_TO", "EXPRESSION_STATEMENT", "FOR_LOOP",
        "GREATER_THAN", "GREATER_THAN_EQUAL", "IDENTIFIER", "IF", "INT_LITERAL", "LEFT_SHIFT", "LESS_THAN",
        "LESS_THAN_EQUAL", "LOGICAL_COMPLEMENT", "LONG_LITERAL", "MEMBER_SELECT", "METHOD", "METHOD_INVOCATION",
        "MINUS", "MINUS_ASSIGNMENT", "MODIFIERS", "MULTIPLY", "NEW_ARRAY", "NEW_CLASS", "NOT_EQUAL_TO",
        "OR_ASSIGNMENT", "PARENTHESIZED", "PLUS", "PLUS_ASSIGNMENT", "POSTFIX_DECREMENT", "POSTFIX_INCREMENT",
        "PRIMITIVE_TYPE", "REMAINDER", "RETURN", "RIGHT_SHIFT", "STRING_LITERAL", "SWITCH", "THROW", "TYPE_CAST",
        "UNARY_MINUS", "VARIABLE");
    private static final Set<String> TYPES = Set.of("int", "long", "boolean", "int[]");
    private static final Set<String> LIBRARY = Set.of("java.lang.Math.floorMod", "java.lang.Math.min",
        "java.lang.Math.max", "java.lang.Math.abs", "java.lang.Long.bitCount");
    private static final Set<String> EXCEPTIONS = Set.of("IllegalStateException", "IllegalArgumentException",
        "IndexOutOfBoundsException");
    private static final Check check = new Check();

    private final CompilationUnitTree unit;
    private final Trees trees;
    private final Set<String> ownClasses = new TreeSet<>();
    private final Map<Element, Set<Element>> calls = new HashMap<>();
    private MethodTree method;

    private LanguageTest(CompilationUnitTree unit, Trees trees) {
        this.unit = unit;
        this.trees = trees;
    }

    public static void main(String[] args) throws IOException {
        Path file = Path.of(args.length > 0 ? args[0] : "src/main/java/PlanetoidDesk.java");
        JavaCompiler compiler = ToolProvider.getSystemJavaCompiler();
        try (StandardJavaFileManager files = compiler.getStandardFileManager(null, null, null)) {
            JavacTask task = (JavacTask) compiler.getTask(null, files, null, null, null, files.getJavaFileObjects(file));
            CompilationUnitTree unit = task.parse().iterator().next();
            task.analyze();
            LanguageTest test = new LanguageTest(unit, Trees.instance(task));
            test.classes();
            test.scan(unit, null);
            test.depths();
        }
        signs(Files.readString(file));
        check.end("LanguageTest");
    }

    private void holds(String rule, Tree tree, boolean isKept) {
        long line = unit.getLineMap().getLineNumber(startOf(tree));
        check.due("rule " + rule + ", line " + line, isKept ? "kept" : tree.toString(), "kept");
    }

    private long startOf(Tree tree) {
        return Math.max(0, trees.getSourcePositions().getStartPosition(unit, tree));
    }

    private Element element(Tree tree) {
        return trees.getElement(TreePath.getPath(unit, tree));
    }

    /** "Texts hold characters 0 to 255 alone"; constants' signs are 1 to 127. */
    private static void signs(String code) {
        check.due("rule 4, signs beyond 127", code.chars().anyMatch(sign -> sign > 127) ? 1 : 0, 0);
    }

    /** Rules 1, 2 and 11: one public class, and at most some twelve. */
    private void classes() {
        check.due("rule 1, classes of the file", unit.getTypeDecls().size(), 1);
        check.due("rule 1, imports", unit.getImports().size(), 0);
        check.due("rule 1, package", unit.getPackageName() == null ? 1 : 0, 1);
        ClassTree face = (ClassTree) unit.getTypeDecls().get(0);
        ownClasses.add(face.getSimpleName().toString());
        for (Tree member : face.getMembers()) {
            if (member instanceof ClassTree inside) {
                ownClasses.add(inside.getSimpleName().toString());
            }
        }
        check.due("rule 11, classes few enough", ownClasses.size() <= MOST_CLASSES ? 1 : 0, 1);
    }

    /** Rules 2, 6 and 10: no lambda, try, assert, switch with patterns and so on. */
    @Override
    public Void scan(Tree tree, Void nothing) {
        if (tree != null) {
            holds("2, 6 and 10, " + tree.getKind(), tree, KINDS.contains(tree.getKind().name()));
        }
        return super.scan(tree, nothing);
    }

    @Override
    public Void visitClass(ClassTree tree, Void nothing) {
        holds("2, a class stands in the outer one alone", tree, ownClasses.contains(tree.getSimpleName().toString()));
        holds("2, plain classes", tree, tree.getExtendsClause() == null && tree.getImplementsClause().isEmpty());
        holds("12, no class is overridden", tree, tree.getModifiers().getFlags().contains(Modifier.FINAL));
        int fields = 0;
        for (Tree member : tree.getMembers()) {
            holds("5, no initialiser block", member, member.getKind() != Tree.Kind.BLOCK);
            boolean isField = member instanceof VariableTree field && !field.getModifiers().getFlags().contains(Modifier.STATIC);
            fields += isField ? 1 : 0;
        }
        holds("11, at most some twenty fields", tree, fields <= MOST_FIELDS);
        return super.visitClass(tree, nothing);
    }

    /** Rules 3 and 5: numbers, truths and own classes; what is static is a constant. */
    @Override
    public Void visitVariable(VariableTree tree, Void nothing) {
        VariableElement variable = (VariableElement) element(tree);
        holds("3", tree, isAllowed(variable.asType().toString()));
        if (variable.getModifiers().contains(Modifier.STATIC)) {
            holds("5", tree, variable.getConstantValue() != null);
        }
        return super.visitVariable(tree, nothing);
    }

    private boolean isAllowed(String type) {
        return TYPES.contains(type) || ownClasses.contains(type.substring(type.lastIndexOf('.') + 1));
    }

    /** Rule 11: at most seven parameters, and short. */
    @Override
    public Void visitMethod(MethodTree tree, Void nothing) {
        long first = unit.getLineMap().getLineNumber(startOf(tree));
        long last = unit.getLineMap().getLineNumber(Math.max(0, trees.getSourcePositions().getEndPosition(unit, tree)));
        holds("11, parameters", tree, tree.getParameters().size() <= MOST_PARAMETERS);
        holds("11, lines", tree, last - first < MOST_LINES);
        holds("6, no method of every object", tree,
            !Set.of("equals", "hashCode", "toString").contains(tree.getName().toString()));
        Tree answer = tree.getReturnType();
        holds("3", tree, answer == null || answer.toString().equals("void") || isAllowed(answer.toString()));
        method = tree;
        calls.put(element(tree), new LinkedHashSet<>());
        super.visitMethod(tree, nothing);
        method = null;
        return null;
    }

    /** Rules 4 and 13: the library's plain arithmetic alone. */
    @Override
    public Void visitMethodInvocation(MethodInvocationTree tree, Void nothing) {
        Element called = element(tree);
        String owner = called.getEnclosingElement().toString();
        boolean isOwn = owner.equals("PlanetoidDesk") || owner.startsWith("PlanetoidDesk.");
        boolean isSuper = tree.getMethodSelect().toString().equals("super");
        holds("4", tree, isOwn || isSuper || LIBRARY.contains(owner + "." + called.getSimpleName()));
        if (isOwn) {
            called(called);
        }
        return super.visitMethodInvocation(tree, nothing);
    }

    private void called(Element one) {
        if (method != null) {
            calls.get(element(method)).add(one);
        }
    }

    /** Rules 6 and 12: objects are made in constructors, once for all calls, and where one throws. */
    @Override
    public Void visitNewClass(NewClassTree tree, Void nothing) {
        boolean isThrown = getCurrentPath().getParentPath().getLeaf() instanceof ThrowTree;
        if (!isThrown) {
            holds("12, made by a call", tree, method == null || isConstructor());
            holds("12, own classes", tree, ownClasses.contains(tree.getIdentifier().toString()));
            called(element(tree));
        }
        return super.visitNewClass(tree, nothing);
    }

    private boolean isConstructor() {
        return element(method).getKind() == ElementKind.CONSTRUCTOR;
    }

    /** Rule 6: "throw new E("a written text")", and none in a constructor. */
    @Override
    public Void visitThrow(ThrowTree tree, Void nothing) {
        boolean isPlain = tree.getExpression() instanceof NewClassTree made
            && EXCEPTIONS.contains(made.getIdentifier().toString())
            && made.getArguments().size() == 1 && made.getArguments().get(0) instanceof LiteralTree;
        holds("6", tree, isPlain && method != null && !isConstructor());
        return super.visitThrow(tree, nothing);
    }

    /** Rule 7: arrays are touched and made in Row alone, behind a test of the index or the length. */
    @Override
    public Void visitArrayAccess(ArrayAccessTree tree, Void nothing) {
        String index = tree.getIndex().toString();
        String array = tree.getExpression().toString();
        String both = index + " >= 0 && " + index + " < " + array + ".length";
        String counted = "int " + index + " = 0; " + index + " < " + array + ".length; ";
        holds("7, an index", tree, isIn("Row") && (isBehind(both) || isBehind(counted)));
        return super.visitArrayAccess(tree, nothing);
    }

    @Override
    public Void visitNewArray(NewArrayTree tree, Void nothing) {
        String length = tree.getDimensions().isEmpty() ? "" : tree.getDimensions().get(0).toString();
        holds("7, a length", tree, isIn("Row") && length.matches("(\\w+) > 0 \\? \\1 : 0"));
        return super.visitNewArray(tree, nothing);
    }

    private boolean isIn(String name) {
        for (TreePath path = getCurrentPath(); path != null; path = path.getParentPath()) {
            if (path.getLeaf() instanceof ClassTree tree) {
                return tree.getSimpleName().contentEquals(name);
            }
        }
        return false;
    }

    /** Whether one of the statements or expressions round the place holds a test, as it is written there. */
    private boolean isBehind(String test) {
        for (TreePath path = getCurrentPath(); !(path.getLeaf() instanceof MethodTree); path = path.getParentPath()) {
            String around = path.getLeaf().toString();
            int place = around.indexOf(getCurrentPath().getLeaf().toString());
            int at = around.indexOf(test);
            if (at >= 0 && at < place) {
                return true;
            }
        }
        return false;
    }

    /** Rule 7: a divisor is a constant other than 0, or stands behind a test. */
    @Override
    public Void visitBinary(BinaryTree tree, Void nothing) {
        if (tree.getKind() == Tree.Kind.DIVIDE || tree.getKind() == Tree.Kind.REMAINDER) {
            holds("7, a divisor", tree, isSafeDivisor(tree.getRightOperand()));
        }
        return super.visitBinary(tree, nothing);
    }

    private boolean isSafeDivisor(ExpressionTree divisor) {
        if (divisor instanceof LiteralTree literal) {
            return !literal.getValue().equals(0);
        }
        if (element(divisor) instanceof VariableElement named && named.getConstantValue() != null) {
            return !named.getConstantValue().equals(0);
        }
        return isBehind(divisor + " != 0") || isBehind(divisor + " > 0") || isLeftBehind(divisor + " == 0");
    }

    /** Whether the method has returned already if the test holds. */
    private boolean isLeftBehind(String test) {
        String body = method.getBody().toString().replaceAll("\\s+", " ");
        int at = body.indexOf("if (" + test + ") { return ");
        return at >= 0 && at < body.lastIndexOf(test.substring(0, test.indexOf(' ')));
    }

    /** Rule 6: numbers alone are cast. */
    @Override
    public Void visitTypeCast(TypeCastTree tree, Void nothing) {
        holds("6, a cast", tree, TYPES.contains(tree.getType().toString()));
        return super.visitTypeCast(tree, nothing);
    }

    /** Rule 9: a counter that goes up to a bound, and that nothing but the loop's own head changes. */
    @Override
    public Void visitForLoop(ForLoopTree tree, Void nothing) {
        boolean isCounted = tree.getInitializer().size() == 1 && tree.getUpdate().size() == 1
            && tree.getInitializer().get(0) instanceof VariableTree;
        holds("9", tree, isCounted);
        if (isCounted) {
            String counter = ((VariableTree) tree.getInitializer().get(0)).getName().toString();
            holds("9, the bound", tree, String.valueOf(tree.getCondition()).matches(counter + " <=? .*"));
            holds("9, the step", tree, tree.getUpdate().get(0).toString().equals(counter + "++;"));
            holds("9, the counter", tree,
                !tree.getStatement().toString().matches("(?s).*\\b" + counter + "(\\+\\+|--| [-+*/%&|]?= ).*"));
        }
        return super.visitForLoop(tree, nothing);
    }

    /** Rules 8 and 11: no call leads back to its own method, and calls go at most eight deep. */
    private void depths() {
        for (Element one : calls.keySet()) {
            List<Element> deepest = deepest(one, new ArrayList<>());
            check.due("rule 8 and 11, calls below " + deepest, deepest.size() <= MOST_CALLS_DEEP ? 1 : 0, 1);
        }
    }

    private List<Element> deepest(Element one, List<Element> open) {
        check.due("rule 8, " + one + " below " + open, open.contains(one) ? "recursion" : "none", "none");
        List<Element> row = new ArrayList<>(open);
        row.add(one);
        List<Element> deepest = row;
        for (Element next : open.contains(one) ? Set.<Element>of() : calls.getOrDefault(one, Set.of())) {
            List<Element> below = deepest(next, row);
            deepest = below.size() > deepest.size() ? below : deepest;
        }
        return deepest;
    }
}
