import com.sun.source.tree.AssignmentTree;
import com.sun.source.tree.BinaryTree;
import com.sun.source.tree.BlockTree;
import com.sun.source.tree.ClassTree;
import com.sun.source.tree.CompilationUnitTree;
import com.sun.source.tree.CompoundAssignmentTree;
import com.sun.source.tree.DoWhileLoopTree;
import com.sun.source.tree.EnhancedForLoopTree;
import com.sun.source.tree.ExpressionTree;
import com.sun.source.tree.ExpressionStatementTree;
import com.sun.source.tree.ForLoopTree;
import com.sun.source.tree.IdentifierTree;
import com.sun.source.tree.LineMap;
import com.sun.source.tree.MethodInvocationTree;
import com.sun.source.tree.MethodTree;
import com.sun.source.tree.NewArrayTree;
import com.sun.source.tree.NewClassTree;
import com.sun.source.tree.ParenthesizedTree;
import com.sun.source.tree.StatementTree;
import com.sun.source.tree.Tree;
import com.sun.source.tree.TypeCastTree;
import com.sun.source.tree.UnaryTree;
import com.sun.source.tree.VariableTree;
import com.sun.source.tree.WhileLoopTree;
import com.sun.source.util.JavacTask;
import com.sun.source.util.SourcePositions;
import com.sun.source.util.TreePath;
import com.sun.source.util.TreePathScanner;
import com.sun.source.util.Trees;
import java.nio.file.Path;
import java.util.ArrayList;
import java.util.HashMap;
import java.util.HashSet;
import java.util.List;
import java.util.Map;
import java.util.Set;
import java.util.TreeSet;
import javax.lang.model.element.Element;
import javax.lang.model.element.ElementKind;
import javax.lang.model.element.Modifier;
import javax.lang.model.type.ArrayType;
import javax.lang.model.type.TypeKind;
import javax.lang.model.type.TypeMirror;
import javax.tools.JavaCompiler;
import javax.tools.StandardJavaFileManager;
import javax.tools.ToolProvider;

/** The rules of ../shared/LANGUAGE.md, by their numbers, looked for in the tree that javac makes of the class. */
public final class LanguageTest extends TreePathScanner<Void, Void> {
    private static final Checks C = new Checks();
    private static final Path SOURCE = Path.of("src/main/java/WindowRoll.java");
    private static final int MOST_CLASSES = 12;
    private static final int MOST_FIELDS = 20;
    private static final int MOST_LINES = 60;
    private static final int MOST_PARAMETERS = 7;
    private static final int MOST_DEPTH = 8;

    /** Rule 4, as far as a class without texts and lists of its own needs it. */
    private static final Set<String> LIBRARY = Set.of("java.lang.String.length", "java.lang.String.charAt",
        "java.lang.Math.max", "java.lang.Math.min", "java.lang.Math.abs", "java.lang.Integer.bitCount",
        "java.lang.System.arraycopy", "java.util.Arrays.fill", "WindowRoll.Word.values");
    private static final Set<Tree.Kind> BANNED = Set.of(Tree.Kind.THROW, Tree.Kind.TRY, Tree.Kind.CATCH,
        Tree.Kind.SYNCHRONIZED, Tree.Kind.ASSERT, Tree.Kind.LAMBDA_EXPRESSION, Tree.Kind.MEMBER_REFERENCE,
        Tree.Kind.SWITCH_EXPRESSION, Tree.Kind.YIELD, Tree.Kind.ANNOTATION, Tree.Kind.UNION_TYPE,
        Tree.Kind.DOUBLE_LITERAL, Tree.Kind.FLOAT_LITERAL, Tree.Kind.PACKAGE);

    private final Trees trees;
    private final SourcePositions places;
    private final CompilationUnitTree unit;
    private final LineMap lines;
    private final Map<Element, Set<Element>> calls = new HashMap<>();
    private final Map<Element, MethodTree> methods = new HashMap<>();
    private int classes = 0;
    private int loops = 0;

    private LanguageTest(Trees trees, CompilationUnitTree unit) {
        this.trees = trees;
        this.unit = unit;
        places = trees.getSourcePositions();
        lines = unit.getLineMap();
    }

    public static void main(String[] args) throws Exception {
        JavaCompiler javac = ToolProvider.getSystemJavaCompiler();
        try (StandardJavaFileManager files = javac.getStandardFileManager(null, null, null)) {
            JavacTask task = (JavacTask) javac.getTask(null, files, null, List.of("-proc:none"), null,
                files.getJavaFileObjects(SOURCE));
            CompilationUnitTree unit = task.parse().iterator().next();
            task.analyze();
            LanguageTest test = new LanguageTest(Trees.instance(task), unit);
            test.scan(unit, null);
            test.depths();
        }
        C.finish();
    }

    private String at(Tree tree) {
        return "line " + lines.getLineNumber(places.getStartPosition(unit, tree)) + ": ";
    }

    private Element element(Tree tree) {
        return trees.getElement(TreePath.getPath(unit, tree));
    }

    private TypeMirror type(Tree tree) {
        return trees.getTypeMirror(TreePath.getPath(unit, tree));
    }

    /** Rules 3, 6: what may not stand anywhere. */
    @Override
    public Void scan(Tree tree, Void none) {
        if (tree != null && BANNED.contains(tree.getKind())) {
            C.is(at(tree) + "rule 6: " + tree.getKind(), false, true);
        }
        return super.scan(tree, none);
    }

    /** Rules 1, 2, 11: classes inside are static and stand in no method; not too many, nor too many fields. */
    @Override
    public Void visitClass(ClassTree tree, Void none) {
        classes++;
        Element own = element(tree);
        boolean outer = own.getEnclosingElement().getKind() == ElementKind.PACKAGE;
        C.is(at(tree) + "rule 2: in a class", getCurrentPath().getParentPath().getLeaf() instanceof ClassTree || outer, true);
        C.is(at(tree) + "rule 1: static", own.getModifiers().contains(Modifier.STATIC) || outer, true);
        C.is(at(tree) + "rule 1: face", own.getModifiers().contains(Modifier.PUBLIC), outer);
        C.is(at(tree) + "rule 1: not protected", own.getModifiers().contains(Modifier.PROTECTED), false);
        int fields = 0;
        for (Tree member : tree.getMembers()) {
            boolean field = member instanceof VariableTree && !element(member).getModifiers().contains(Modifier.STATIC);
            fields += field ? 1 : 0;
            C.is(at(member) + "rule 5: no block", member instanceof BlockTree, false);
        }
        C.is(at(tree) + "rule 11: fields", fields <= MOST_FIELDS, true);
        C.is("rule 11: classes", classes <= MOST_CLASSES, true);
        return super.visitClass(tree, none);
    }

    /** Rule 11: the length of a method and what it takes. Rule 6: no equals, hashCode, toString of its own. */
    @Override
    public Void visitMethod(MethodTree tree, Void none) {
        methods.put(element(tree), tree);
        C.is(at(tree) + "rule 11: parameters", tree.getParameters().size() <= MOST_PARAMETERS, true);
        long end = places.getEndPosition(unit, tree);
        if (end >= 0) {
            long length = lines.getLineNumber(end) - lines.getLineNumber(places.getStartPosition(unit, tree)) + 1;
            C.is(at(tree) + "rule 11: lines", length <= MOST_LINES, true);
        }
        C.is(at(tree) + "rule 6: " + tree.getName(),
            Set.of("equals", "hashCode", "toString", "finalize").contains(tree.getName().toString()), false);
        return super.visitMethod(tree, none);
    }

    /** Rules 3, 5: types of fields, parameters and locals; what is static is final and a constant. */
    @Override
    public Void visitVariable(VariableTree tree, Void none) {
        Element own = element(tree);
        C.is(at(tree) + "rule 3: type of " + tree.getName(), allowed(own.asType()), true);
        if (own.getKind() == ElementKind.FIELD && own.getModifiers().contains(Modifier.STATIC)) {
            C.is(at(tree) + "rule 5: final", own.getModifiers().contains(Modifier.FINAL), true);
            C.is(at(tree) + "rule 5: constant", constant(own.asType(), tree.getInitializer()), true);
        }
        if (own.getKind() == ElementKind.FIELD && own.getEnclosingElement().getSimpleName().contentEquals("WindowRoll")) {
            C.is(at(tree) + "rule 1: private", own.getModifiers().contains(Modifier.PRIVATE)
                || tree.getName().contentEquals("NONE"), true);
        }
        return super.visitVariable(tree, none);
    }

    private static boolean allowed(TypeMirror type) {
        if (type.getKind() == TypeKind.ARRAY) {
            TypeMirror part = ((ArrayType) type).getComponentType();
            boolean twice = part.getKind() == TypeKind.ARRAY;
            return twice ? ((ArrayType) part).getComponentType().getKind().isPrimitive() : allowed(part);
        }
        return type.getKind().isPrimitive() || type.toString().equals("java.lang.String")
            || type.toString().startsWith("WindowRoll");
    }

    private static boolean constant(TypeMirror type, ExpressionTree value) {
        if (type.getKind() == TypeKind.ARRAY) {
            boolean written = value instanceof NewArrayTree && ((NewArrayTree) value).getInitializers() != null
                && ((ArrayType) type).getComponentType().getKind().isPrimitive();
            return written || value instanceof MethodInvocationTree && value.toString().equals("Word.values()");
        }
        return Set.of("int", "long", "boolean", "char", "java.lang.String").contains(type.toString());
    }

    /** Rule 4: what is called is of the class itself or one of the few functions of the library. */
    @Override
    public Void visitMethodInvocation(MethodInvocationTree tree, Void none) {
        Element called = element(tree.getMethodSelect());
        String name = called.getEnclosingElement() + "." + called.getSimpleName();
        if (called.getSimpleName().contentEquals("<init>")) {
            return super.visitMethodInvocation(tree, none);
        }
        boolean own = called.getEnclosingElement().toString().startsWith("WindowRoll");
        C.is(at(tree) + "rule 4: " + name, own || LIBRARY.contains(name), true);
        if (own) {
            calls.computeIfAbsent(caller(), c -> new HashSet<>()).add(called);
        }
        return super.visitMethodInvocation(tree, none);
    }

    private Element caller() {
        for (TreePath path = getCurrentPath(); path != null; path = path.getParentPath()) {
            if (path.getLeaf() instanceof MethodTree || path.getLeaf() instanceof ClassTree) {
                return trees.getElement(path);
            }
        }
        return null;
    }

    /** Rules 2, 3, 12: own classes alone are made, none with a body of its own, and none in a loop. */
    @Override
    public Void visitNewClass(NewClassTree tree, Void none) {
        C.is(at(tree) + "rule 2: no body", tree.getClassBody() == null, true);
        C.is(at(tree) + "rule 3: own class", type(tree).toString().startsWith("WindowRoll"), true);
        C.is(at(tree) + "rule 12: made in no loop", loops, 0);
        return super.visitNewClass(tree, none);
    }

    @Override
    public Void visitNewArray(NewArrayTree tree, Void none) {
        C.is(at(tree) + "rule 12: made in no loop", loops, 0);
        return super.visitNewArray(tree, none);
    }

    /** Rule 6: casts go to numbers alone. */
    @Override
    public Void visitTypeCast(TypeCastTree tree, Void none) {
        C.is(at(tree) + "rule 6: cast", type(tree.getType()).getKind().isPrimitive(), true);
        return super.visitTypeCast(tree, none);
    }

    /** Rules 6, 7, 10: texts are neither joined by + nor compared by ==; a divisor is a constant or looked at. */
    @Override
    public Void visitBinary(BinaryTree tree, Void none) {
        boolean texts = isText(tree.getLeftOperand()) || isText(tree.getRightOperand());
        C.is(at(tree) + "rules 6, 10: no texts", texts, false);
        if (tree.getKind() == Tree.Kind.DIVIDE || tree.getKind() == Tree.Kind.REMAINDER) {
            String divisor = tree.getRightOperand().toString();
            String around = getCurrentPath().getParentPath().getLeaf().toString();
            C.is(at(tree) + "rule 7: divisor", divisor.matches("[1-9]\\d*")
                || around.startsWith(divisor + " == 0 ? "), true);
        }
        return super.visitBinary(tree, none);
    }

    private boolean isText(ExpressionTree tree) {
        return type(tree) != null && type(tree).toString().equals("java.lang.String");
    }

    /** Rule 9: a counter that goes by steps against a bound. */
    @Override
    public Void visitForLoop(ForLoopTree tree, Void none) {
        boolean ends = tree.getUpdate().size() == 1
            && counts(tree.getCondition(), steps(tree.getUpdate().get(0).getExpression()));
        C.is(at(tree) + "rule 9: its end can be seen", ends, true);
        loops++;
        super.visitForLoop(tree, none);
        loops--;
        return none;
    }

    @Override
    public Void visitWhileLoop(WhileLoopTree tree, Void none) {
        boolean ends = false;
        List<? extends StatementTree> body = tree.getStatement() instanceof BlockTree
            ? ((BlockTree) tree.getStatement()).getStatements() : List.of(tree.getStatement());
        for (StatementTree statement : body) {
            if (statement instanceof ExpressionStatementTree) {
                ends |= counts(tree.getCondition(), steps(((ExpressionStatementTree) statement).getExpression()));
            }
        }
        C.is(at(tree) + "rule 9: its end can be seen", ends, true);
        loops++;
        super.visitWhileLoop(tree, none);
        loops--;
        return none;
    }

    @Override
    public Void visitDoWhileLoop(DoWhileLoopTree tree, Void none) {
        C.is(at(tree) + "rule 9: none was needed yet", false, true);
        return super.visitDoWhileLoop(tree, none);
    }

    @Override
    public Void visitEnhancedForLoop(EnhancedForLoopTree tree, Void none) {
        C.is(at(tree) + "rule 12: over an array alone", type(tree.getExpression()).getKind() == TypeKind.ARRAY, true);
        loops++;
        super.visitEnhancedForLoop(tree, none);
        loops--;
        return none;
    }

    /** The counter that a step takes up ("+i") or down ("-i"); nothing for what is no such step. */
    private static String steps(ExpressionTree step) {
        switch (step.getKind()) {
            case POSTFIX_INCREMENT: case PREFIX_INCREMENT: return "+" + ((UnaryTree) step).getExpression();
            case POSTFIX_DECREMENT: case PREFIX_DECREMENT: return "-" + ((UnaryTree) step).getExpression();
            case PLUS_ASSIGNMENT: return "+" + ((CompoundAssignmentTree) step).getVariable();
            case MINUS_ASSIGNMENT: return "-" + ((CompoundAssignmentTree) step).getVariable();
            default: return "";
        }
    }

    /** Whether one of the conditions that must all hold keeps the counter on this side of a bound. */
    private static boolean counts(ExpressionTree condition, String step) {
        if (condition instanceof ParenthesizedTree) {
            return counts(((ParenthesizedTree) condition).getExpression(), step);
        }
        if (!(condition instanceof BinaryTree) || step.isEmpty()) {
            return false;
        }
        BinaryTree both = (BinaryTree) condition;
        switch (both.getKind()) {
            case CONDITIONAL_AND:
                return counts(both.getLeftOperand(), step) || counts(both.getRightOperand(), step);
            case LESS_THAN: case LESS_THAN_EQUAL:
                return step.equals("+" + both.getLeftOperand());
            case GREATER_THAN: case GREATER_THAN_EQUAL:
                return step.equals("-" + both.getLeftOperand());
            default:
                return false;
        }
    }

    /** Rule 9: within a loop its counter is not set anew. */
    @Override
    public Void visitAssignment(AssignmentTree tree, Void none) {
        if (tree.getVariable() instanceof IdentifierTree) {
            for (TreePath path = getCurrentPath(); path != null; path = path.getParentPath()) {
                if (path.getLeaf() instanceof ForLoopTree) {
                    String step = steps(((ForLoopTree) path.getLeaf()).getUpdate().get(0).getExpression());
                    C.is(at(tree) + "rule 9: a counter stays", step.endsWith(tree.getVariable().toString())
                        && step.length() == 1 + tree.getVariable().toString().length(), false);
                }
            }
        }
        return super.visitAssignment(tree, none);
    }

    /** Rules 8, 11: how deep calls go where none is a recursion; a recursion is private and carries its depth. */
    private void depths() {
        C.is("methods", methods.size() > 47, true);
        for (Element method : methods.keySet()) {
            if (reached(method).contains(method)) {
                C.is("rule 8: " + method + " is private", method.getModifiers().contains(Modifier.PRIVATE), true);
                boolean carries = methods.get(method).getParameters().stream()
                    .anyMatch(p -> p.getName().contentEquals("depth"));
                C.is("rule 8: " + method + " carries its depth", carries, true);
            }
            List<String> way = deepest(method, new HashMap<>());
            C.is("rule 11: calls " + way, way.size() <= MOST_DEPTH, true);
        }
    }

    private Set<Element> reached(Element from) {
        Set<Element> seen = new HashSet<>();
        List<Element> left = new ArrayList<>(calls.getOrDefault(from, Set.of()));
        while (!left.isEmpty()) {
            Element next = left.remove(left.size() - 1);
            if (seen.add(next)) {
                left.addAll(calls.getOrDefault(next, Set.of()));
            }
        }
        return seen;
    }

    /** The longest way of calls from a method on; those that call one another stand for one. */
    private List<String> deepest(Element from, Map<Element, List<String>> known) {
        if (known.containsKey(from)) {
            return known.get(from);
        }
        Set<Element> together = new HashSet<>(Set.of(from));
        for (Element other : reached(from)) {
            if (reached(other).contains(from)) {
                together.add(other);
            }
        }
        List<String> longest = List.of();
        for (Element one : together) {
            for (Element next : calls.getOrDefault(one, Set.of())) {
                List<String> way = together.contains(next) ? List.of() : deepest(next, known);
                longest = way.size() > longest.size() ? way : longest;
            }
        }
        List<String> way = new ArrayList<>();
        TreeSet<String> names = new TreeSet<>();
        together.forEach(e -> names.add(e.getSimpleName().toString()));
        way.add(String.join("|", names));
        way.addAll(longest);
        together.forEach(e -> known.put(e, way));
        return way;
    }
}
