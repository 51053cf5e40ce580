import com.sun.source.tree.BinaryTree;
import com.sun.source.tree.ClassTree;
import com.sun.source.tree.CompilationUnitTree;
import com.sun.source.tree.ExpressionTree;
import com.sun.source.tree.ForLoopTree;
import com.sun.source.tree.IdentifierTree;
import com.sun.source.tree.MemberSelectTree;
import com.sun.source.tree.MethodInvocationTree;
import com.sun.source.tree.MethodTree;
import com.sun.source.tree.NewClassTree;
import com.sun.source.tree.ParenthesizedTree;
import com.sun.source.tree.ThrowTree;
import com.sun.source.tree.Tree;
import com.sun.source.tree.TypeCastTree;
import com.sun.source.tree.VariableTree;
import com.sun.source.tree.WhileLoopTree;
import com.sun.source.util.JavacTask;
import com.sun.source.util.TreePath;
import com.sun.source.util.TreePathScanner;
import com.sun.source.util.Trees;
import java.io.IOException;
import java.io.StringWriter;
import java.util.ArrayList;
import java.util.HashMap;
import java.util.LinkedHashSet;
import java.util.List;
import java.util.Map;
import java.util.Set;
import javax.lang.model.element.Element;
import javax.lang.model.element.ElementKind;
import javax.lang.model.element.Modifier;
import javax.lang.model.element.VariableElement;
import javax.lang.model.type.TypeKind;
import javax.tools.ToolProvider;

/**
 * Holds a source text against the rules of LANGUAGE.md, as the compiler reads it. Where the rules leave more than the
 * class needs, what is looked for is the narrower; a construct that is new to the class is to be held against its rule
 * and then let in here.
 */
final class Rules extends TreePathScanner<Void, Void> {
    private static final Set<Tree.Kind> KINDS = Set.of(
            Tree.Kind.COMPILATION_UNIT, Tree.Kind.IMPORT, Tree.Kind.CLASS, Tree.Kind.METHOD, Tree.Kind.VARIABLE,
            Tree.Kind.MODIFIERS, Tree.Kind.PRIMITIVE_TYPE, Tree.Kind.PARAMETERIZED_TYPE, Tree.Kind.ARRAY_TYPE,
            Tree.Kind.IDENTIFIER, Tree.Kind.MEMBER_SELECT, Tree.Kind.ARRAY_ACCESS, Tree.Kind.BLOCK, Tree.Kind.IF,
            Tree.Kind.FOR_LOOP, Tree.Kind.WHILE_LOOP, Tree.Kind.RETURN, Tree.Kind.THROW, Tree.Kind.EXPRESSION_STATEMENT,
            Tree.Kind.METHOD_INVOCATION, Tree.Kind.NEW_CLASS, Tree.Kind.NEW_ARRAY, Tree.Kind.ASSIGNMENT,
            Tree.Kind.PLUS_ASSIGNMENT, Tree.Kind.MINUS_ASSIGNMENT, Tree.Kind.POSTFIX_INCREMENT,
            Tree.Kind.POSTFIX_DECREMENT, Tree.Kind.PLUS, Tree.Kind.MINUS, Tree.Kind.MULTIPLY, Tree.Kind.DIVIDE,
            Tree.Kind.REMAINDER, Tree.Kind.UNARY_MINUS, Tree.Kind.LESS_THAN, Tree.Kind.LESS_THAN_EQUAL,
            Tree.Kind.GREATER_THAN, Tree.Kind.GREATER_THAN_EQUAL, Tree.Kind.EQUAL_TO, Tree.Kind.NOT_EQUAL_TO,
            Tree.Kind.CONDITIONAL_AND, Tree.Kind.CONDITIONAL_OR, Tree.Kind.LOGICAL_COMPLEMENT,
            Tree.Kind.CONDITIONAL_EXPRESSION, Tree.Kind.PARENTHESIZED, Tree.Kind.TYPE_CAST, Tree.Kind.INT_LITERAL,
            Tree.Kind.DOUBLE_LITERAL, Tree.Kind.BOOLEAN_LITERAL, Tree.Kind.NULL_LITERAL);
    private static final Set<Tree.Kind> BOUNDS = Set.of(Tree.Kind.LESS_THAN, Tree.Kind.LESS_THAN_EQUAL,
            Tree.Kind.GREATER_THAN, Tree.Kind.GREATER_THAN_EQUAL);
    private static final Set<String> LIBRARY = Set.of("ArrayList.<init>()", "ArrayList.add(E)", "ArrayList.add(int,E)",
            "ArrayList.get(int)", "ArrayList.remove(int)", "ArrayList.size()", "Math.min(int,int)", "Math.max(int,int)");
    private static final Set<String> THROWN = Set.of("IllegalStateException", "IllegalArgumentException",
            "IndexOutOfBoundsException");
    private static final int MOST_LINES = 60;
    private static final int MOST_PARAMETERS = 7;
    private static final int MOST_CLASSES = 12;
    private static final int MOST_FIELDS = 20;
    private static final int MOST_DEPTH = 8;

    private final Trees trees;
    private final CompilationUnitTree unit;
    private final List<String> broken = new ArrayList<>();
    private final Set<Element> own = new LinkedHashSet<>();
    private final Map<Element, Set<Element>> calls = new HashMap<>();

    private Rules(Trees trees, CompilationUnitTree unit) {
        this.trees = trees;
        this.unit = unit;
    }

    /** What of the text is outside the rules: "rule 3: ..". */
    static List<String> brokenBy(String text) throws IOException {
        StringWriter said = new StringWriter();
        JavacTask task = (JavacTask) ToolProvider.getSystemJavaCompiler().getTask(said, null, null,
                Compiled.OPTIONS, null, List.of(Compiled.file("DedupVault", text)));
        CompilationUnitTree unit = task.parse().iterator().next();
        task.analyze();
        if (!said.toString().isEmpty()) {
            return List.of("it does not compile: " + said);
        }
        Rules rules = new Rules(Trees.instance(task), unit);
        rules.look();
        return rules.broken;
    }

    private void look() {
        ownClasses();
        want(unit.getPackage() == null, unit, 1, "no package line");
        want(unit.getTypeDecls().size() == 1, unit, 1, "one class");
        want(own.size() <= MOST_CLASSES, unit, 11, "some twelve classes");
        scan(unit, null);
        for (Element method : calls.keySet()) {
            want(depth(method, new ArrayList<>()) <= MOST_DEPTH, unit, 11,
                    "calls at most eight deep, and none of itself: " + method);
        }
    }

    private void ownClasses() {
        new TreePathScanner<Void, Void>() {
            @Override
            public Void visitClass(ClassTree tree, Void nothing) {
                own.add(trees.getElement(getCurrentPath()));
                return super.visitClass(tree, nothing);
            }
        }.scan(unit, null);
    }

    private void want(boolean right, Tree at, int rule, String what) {
        if (!right) {
            long place = trees.getSourcePositions().getStartPosition(unit, at);
            broken.add("rule " + rule + ": " + what + " (line " + unit.getLineMap().getLineNumber(Math.max(0, place)) + ")");
        }
    }

    // ---- all that stands in the text

    @Override
    public Void scan(Tree tree, Void nothing) {
        if (tree != null) {
            want(KINDS.contains(tree.getKind()), tree, 2, "none of the kind " + tree.getKind());
        }
        return super.scan(tree, nothing);
    }

    @Override
    public Void visitClass(ClassTree tree, Void nothing) {
        Element element = trees.getElement(getCurrentPath());
        boolean outer = getCurrentPath().getParentPath().getLeaf() == unit;
        Set<Modifier> modifiers = element.getModifiers();
        want(outer ? modifiers.equals(Set.of(Modifier.PUBLIC, Modifier.FINAL))
                : modifiers.equals(Set.of(Modifier.PRIVATE, Modifier.STATIC, Modifier.FINAL)), tree, 2,
                "the class is public and final, those inside private, static and final: " + element);
        want(tree.getExtendsClause() == null && tree.getImplementsClause().isEmpty(), tree, 2, "a class on its own");
        long fields = tree.getMembers().stream().filter(VariableTree.class::isInstance).map(VariableTree.class::cast)
                .filter(field -> !field.getModifiers().getFlags().contains(Modifier.STATIC)).count();
        want(fields <= MOST_FIELDS, tree, 11, "some twenty fields in a class");
        want(tree.getMembers().stream().noneMatch(member -> member.getKind() == Tree.Kind.BLOCK), tree, 5,
                "no block that stands in the class itself");
        return super.visitClass(tree, nothing);
    }

    @Override
    public Void visitVariable(VariableTree tree, Void nothing) {
        Element element = trees.getElement(getCurrentPath());
        want(knownType(tree.getType()), tree, 3, "no such type: " + tree.getType());
        if (element.getKind() == ElementKind.FIELD) {
            Set<Modifier> modifiers = element.getModifiers();
            boolean constant = ((VariableElement) element).getConstantValue() != null;
            want(modifiers.contains(Modifier.STATIC) == constant, tree, 5,
                    "static fields are constants, and constants static: " + element);
            want(modifiers.contains(Modifier.PRIVATE) || tree.getName().contentEquals("NONE"), tree, 1,
                    "fields are private: " + element);
        }
        return super.visitVariable(tree, nothing);
    }

    private boolean knownType(Tree type) {
        if (type == null) {
            return false;
        }
        String name = type.toString().replaceAll("^ArrayList<(.*)>$", "$1");
        return Set.of("int", "boolean", "double", "int[]").contains(type.toString())
                || own.stream().anyMatch(c -> c.getSimpleName().contentEquals(name));
    }

    // ---- methods

    @Override
    public Void visitMethod(MethodTree tree, Void nothing) {
        Element element = trees.getElement(getCurrentPath());
        calls.computeIfAbsent(element, name -> new LinkedHashSet<>());
        want(tree.getParameters().size() <= MOST_PARAMETERS, tree, 11, "at most seven parameters: " + element);
        long from = trees.getSourcePositions().getStartPosition(unit, tree);
        long to = trees.getSourcePositions().getEndPosition(unit, tree);
        long lines = unit.getLineMap().getLineNumber(to) - unit.getLineMap().getLineNumber(from) + 1;
        want(lines <= MOST_LINES, tree, 11, "methods of some sixty lines: " + element);
        want(tree.getReturnType() == null || tree.getReturnType().toString().equals("void")
                || knownType(tree.getReturnType()), tree, 3, "no such type: " + tree.getReturnType());
        want(!Set.of("equals", "hashCode", "toString").contains(tree.getName().toString()), tree, 6,
                "no " + tree.getName() + " of one's own");
        want(!tree.getModifiers().getFlags().contains(Modifier.SYNCHRONIZED), tree, 6, "not synchronized");
        return super.visitMethod(tree, nothing);
    }

    @Override
    public Void visitMethodInvocation(MethodInvocationTree tree, Void nothing) {
        Element called = trees.getElement(getCurrentPath());
        // the compiler itself puts this call into a constructor that has none
        if (!tree.toString().equals("super()")) {
            called(tree, called);
            want(!inConstructor() || fixed(called), tree, 12, "a constructor calls nothing that could be another's");
        }
        return super.visitMethodInvocation(tree, nothing);
    }

    @Override
    public Void visitNewClass(NewClassTree tree, Void nothing) {
        boolean thrown = getCurrentPath().getParentPath().getLeaf().getKind() == Tree.Kind.THROW;
        if (!thrown) {
            called(tree, trees.getElement(getCurrentPath()));
        }
        want(tree.getClassBody() == null, tree, 2, "no class without a name");
        return super.visitNewClass(tree, nothing);
    }

    private void called(Tree tree, Element called) {
        Element from = caller();
        if (own.contains(called.getEnclosingElement())) {
            if (from != null) {
                calls.computeIfAbsent(from, name -> new LinkedHashSet<>()).add(called);
            }
        } else {
            String name = called.getEnclosingElement().getSimpleName() + "." + called;
            String plain = name.replaceFirst("\\.ArrayList\\(", ".<init>(").replaceFirst("\\.<E>", ".");
            want(LIBRARY.contains(plain), tree, 4, "not of the library that stands there: " + plain);
        }
    }

    private Element caller() {
        TreePath path = path(Tree.Kind.METHOD);
        return path == null ? null : trees.getElement(path);
    }

    private boolean inConstructor() {
        Element from = caller();
        return from != null && from.getKind() == ElementKind.CONSTRUCTOR;
    }

    private TreePath path(Tree.Kind kind) {
        TreePath path = getCurrentPath();
        while (path != null && path.getLeaf().getKind() != kind) {
            path = path.getParentPath();
        }
        return path;
    }

    private boolean fixed(Element called) {
        Element in = called.getEnclosingElement();
        return called.getModifiers().contains(Modifier.STATIC) || called.getModifiers().contains(Modifier.PRIVATE)
                || in.getModifiers().contains(Modifier.FINAL) || !own.contains(in);
    }

    /** How many of one's own methods stand open at once from here; too many if one comes again on the way. */
    private int depth(Element method, List<Element> way) {
        if (way.contains(method)) {
            return MOST_DEPTH + 1;
        }
        way.add(method);
        int deepest = 0;
        for (Element next : calls.getOrDefault(method, Set.of())) {
            deepest = Math.max(deepest, depth(next, way));
        }
        way.remove(way.size() - 1);
        return deepest + 1;
    }

    // ---- exceptions

    @Override
    public Void visitThrow(ThrowTree tree, Void nothing) {
        boolean made = tree.getExpression() instanceof NewClassTree
                && THROWN.contains(((NewClassTree) tree.getExpression()).getIdentifier().toString())
                && ((NewClassTree) tree.getExpression()).getArguments().isEmpty();
        want(made, tree, 6, "throw new E() of one of " + THROWN);
        want(!inConstructor(), tree, 6, "no throw in a constructor");
        return super.visitThrow(tree, nothing);
    }

    // ---- numbers

    @Override
    public Void visitBinary(BinaryTree tree, Void nothing) {
        boolean divides = tree.getKind() == Tree.Kind.DIVIDE || tree.getKind() == Tree.Kind.REMAINDER;
        boolean whole = kindOf(tree) == TypeKind.INT;
        want(!divides || !whole || positiveConstant(tree.getRightOperand()), tree, 7,
                "a divisor is a constant, and not 0");
        want(tree.getKind() != Tree.Kind.REMAINDER || whole, tree, 3, "no remainder of doubles");
        return super.visitBinary(tree, nothing);
    }

    @Override
    public Void visitTypeCast(TypeCastTree tree, Void nothing) {
        want(tree.getType().toString().equals("double"), tree, 6, "no cast but to double");
        return super.visitTypeCast(tree, nothing);
    }

    private TypeKind kindOf(ExpressionTree tree) {
        return trees.getTypeMirror(new TreePath(getCurrentPath(), tree)).getKind();
    }

    private boolean positiveConstant(ExpressionTree tree) {
        Element element = trees.getElement(new TreePath(getCurrentPath(), tree));
        Object value = element instanceof VariableElement ? ((VariableElement) element).getConstantValue() : null;
        return value instanceof Integer && (Integer) value > 0;
    }

    // ---- loops

    @Override
    public Void visitForLoop(ForLoopTree tree, Void nothing) {
        want(bounded(tree.getCondition()), tree, 9, "the loop has an end that can be seen");
        return super.visitForLoop(tree, nothing);
    }

    @Override
    public Void visitWhileLoop(WhileLoopTree tree, Void nothing) {
        want(bounded(tree.getCondition()), tree, 9, "the loop has an end that can be seen");
        return super.visitWhileLoop(tree, nothing);
    }

    /** Whether a counter that is to stay on one side of a bound is among what must hold to go on. */
    private static boolean bounded(ExpressionTree condition) {
        if (condition == null) {
            return false;
        }
        if (condition.getKind() == Tree.Kind.PARENTHESIZED) {
            return bounded(((ParenthesizedTree) condition).getExpression());
        }
        if (condition.getKind() == Tree.Kind.CONDITIONAL_AND) {
            BinaryTree both = (BinaryTree) condition;
            return bounded(both.getLeftOperand()) || bounded(both.getRightOperand());
        }
        return BOUNDS.contains(condition.getKind());
    }

    // ---- the object itself

    @Override
    public Void visitIdentifier(IdentifierTree tree, Void nothing) {
        boolean selects = getCurrentPath().getParentPath().getLeaf() instanceof MemberSelectTree;
        want(!tree.getName().contentEquals("this") || selects || !inConstructor(), tree, 12,
                "a constructor hands out nothing of its object");
        return super.visitIdentifier(tree, nothing);
    }
}
