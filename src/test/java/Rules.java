import com.sun.source.tree.BinaryTree;
import com.sun.source.tree.BlockTree;
import com.sun.source.tree.ClassTree;
import com.sun.source.tree.CompilationUnitTree;
import com.sun.source.tree.CompoundAssignmentTree;
import com.sun.source.tree.DoWhileLoopTree;
import com.sun.source.tree.ExpressionTree;
import com.sun.source.tree.ForLoopTree;
import com.sun.source.tree.LiteralTree;
import com.sun.source.tree.MethodInvocationTree;
import com.sun.source.tree.MethodTree;
import com.sun.source.tree.NewArrayTree;
import com.sun.source.tree.NewClassTree;
import com.sun.source.tree.ParenthesizedTree;
import com.sun.source.tree.SwitchExpressionTree;
import com.sun.source.tree.SwitchTree;
import com.sun.source.tree.Tree;
import com.sun.source.tree.TypeCastTree;
import com.sun.source.tree.VariableTree;
import com.sun.source.tree.WhileLoopTree;
import com.sun.source.util.JavacTask;
import com.sun.source.util.TreePath;
import com.sun.source.util.TreePathScanner;
import com.sun.source.util.Trees;
import java.io.IOException;
import java.net.URI;
import java.util.ArrayList;
import java.util.LinkedHashMap;
import java.util.LinkedHashSet;
import java.util.List;
import java.util.Map;
import java.util.Set;
import java.util.TreeSet;
import javax.lang.model.element.Element;
import javax.lang.model.element.ElementKind;
import javax.lang.model.element.Modifier;
import javax.lang.model.element.VariableElement;
import javax.lang.model.type.ArrayType;
import javax.lang.model.type.DeclaredType;
import javax.lang.model.type.TypeKind;
import javax.lang.model.type.TypeMirror;
import javax.tools.JavaFileObject;
import javax.tools.SimpleJavaFileObject;
import javax.tools.ToolProvider;

/**
 * Looks for breaches of ../shared/LANGUAGE.md in a source of the class. Where a
 * rule leaves more than the class needs, the narrower is asked for: no recursion,
 * and no object that is made behind the constructor.
 */
final class Rules extends TreePathScanner<Void, Void> {
    private static final int MOST_CLASSES = 12;
    private static final int MOST_FIELDS = 20;
    private static final int MOST_PARAMETERS = 7;
    private static final int MOST_LINES = 60;
    private static final int DEEPEST = 8;

    private static final Map<Tree.Kind, Integer> FORBIDDEN = Map.of(
        Tree.Kind.PACKAGE, 1, Tree.Kind.LAMBDA_EXPRESSION, 2, Tree.Kind.MEMBER_REFERENCE, 2, Tree.Kind.THROW, 6,
        Tree.Kind.TRY, 6, Tree.Kind.CATCH, 6, Tree.Kind.SYNCHRONIZED, 6, Tree.Kind.ASSERT, 6);

    private static final Set<String> OBJECT_METHODS = Set.of("equals", "hashCode", "toString");

    private static final Set<String> NUMBER_CLASSES = Set.of("java.lang.Math", "java.lang.Integer", "java.lang.Long");

    private static final Map<String, Set<String>> LIBRARY = Map.of(
        "java.lang.String", Set.of("length", "charAt", "isEmpty", "equals", "indexOf", "substring", "toCharArray"),
        "java.lang.StringBuilder", Set.of("append", "charAt", "setCharAt", "setLength", "deleteCharAt", "reverse",
            "length", "toString"),
        "java.util.ArrayList", Set.of("add", "get", "set", "remove", "size", "isEmpty", "clear"),
        "java.util.List", Set.of("add", "get", "set", "remove", "size", "isEmpty", "clear", "of"),
        "java.lang.Integer", Set.of(),
        "java.lang.System", Set.of("arraycopy"),
        "java.util.Arrays", Set.of("copyOf", "copyOfRange", "fill"));

    private static final Set<TypeKind> CONSTANT_KINDS = Set.of(TypeKind.INT, TypeKind.LONG, TypeKind.BOOLEAN, TypeKind.CHAR);
    private static final Set<TypeKind> ROW_KINDS = Set.of(TypeKind.INT, TypeKind.LONG, TypeKind.CHAR, TypeKind.BYTE);

    private final Trees trees;
    private final CompilationUnitTree unit;
    private final List<String> breaches = new ArrayList<>();
    private final Set<String> face = new TreeSet<>();
    private final Map<Element, Set<Element>> calls = new LinkedHashMap<>();
    private int classes = 0;

    private Rules(Trees trees, CompilationUnitTree unit) {
        this.trees = trees;
        this.unit = unit;
    }

    /** What breaks a rule in the source: "rule 6, line 20: ..". */
    static List<String> breaches(String source) throws IOException {
        JavaFileObject file = new SimpleJavaFileObject(URI.create("string:///ChairCredits.java"), JavaFileObject.Kind.SOURCE) {
            @Override
            public CharSequence getCharContent(boolean ignoreEncodingErrors) {
                return source;
            }
        };
        JavacTask task = (JavacTask) ToolProvider.getSystemJavaCompiler()
            .getTask(null, null, null, List.of("-proc:none"), null, List.of(file));
        CompilationUnitTree unit = task.parse().iterator().next();
        task.analyze();
        Rules rules = new Rules(Trees.instance(task), unit);
        rules.lookAtAll(source);
        return rules.breaches;
    }

    private void lookAtAll(String source) {
        ask(4, unit, "signs 1 to 127 alone", source.chars().allMatch(c -> c >= 1 && c <= 127));
        ask(0, unit, "one class in the file", unit.getTypeDecls().size() == 1);
        for (Tree member : ((ClassTree) unit.getTypeDecls().get(0)).getMembers()) {
            if (member instanceof MethodTree m && m.getReturnType() != null && isPublic(m)) {
                face.add(m.getName().toString());
            }
        }
        scan(unit, null);
        ask(11, unit, "at most " + MOST_CLASSES + " classes", classes <= MOST_CLASSES);
        for (Element caller : calls.keySet()) {
            askDepth(caller, new LinkedHashSet<>());
        }
    }

    private void ask(int rule, Tree place, String claim, boolean holds) {
        if (!holds) {
            long at = trees.getSourcePositions().getStartPosition(unit, place);
            breaches.add("rule " + rule + ", line " + (at < 0 ? 0 : unit.getLineMap().getLineNumber(at)) + ": " + claim);
        }
    }

    @Override
    public Void scan(Tree tree, Void nothing) {
        if (tree != null && FORBIDDEN.containsKey(tree.getKind())) {
            ask(FORBIDDEN.get(tree.getKind()), tree, "no " + tree.getKind(), false);
        }
        return super.scan(tree, nothing);
    }

    // ---- classes, methods, fields

    @Override
    public Void visitClass(ClassTree c, Void nothing) {
        classes++;
        Set<Modifier> flags = c.getModifiers().getFlags();
        if (!(parent() instanceof CompilationUnitTree)) {
            boolean isStatic = c.getKind() != Tree.Kind.CLASS || flags.contains(Modifier.STATIC);
            ask(2, c, "a class inside is static, and stands in a class", isStatic && parent() instanceof ClassTree);
            ask(1, c, "a class inside is not open", !flags.contains(Modifier.PUBLIC) && !flags.contains(Modifier.PROTECTED));
        }
        long fields = c.getMembers().stream().filter(m -> m instanceof VariableTree v && !isStatic(v)).count();
        ask(11, c, "at most " + MOST_FIELDS + " fields", fields <= MOST_FIELDS);
        return super.visitClass(c, nothing);
    }

    @Override
    public Void visitMethod(MethodTree m, Void nothing) {
        String name = m.getName().toString();
        ask(1, m, "no private method " + name, isPublic(m) || !face.contains(name));
        ask(6, m, "no method " + name, !OBJECT_METHODS.contains(name));
        ask(11, m, "at most " + MOST_PARAMETERS + " parameters", m.getParameters().size() <= MOST_PARAMETERS);
        ask(11, m, "at most " + MOST_LINES + " lines", lines(m) <= MOST_LINES);
        if (m.getReturnType() != null) {
            askType(m.getReturnType(), typeOf(m.getReturnType()));
        }
        return super.visitMethod(m, nothing);
    }

    private static boolean isPublic(MethodTree m) {
        return m.getModifiers().getFlags().contains(Modifier.PUBLIC);
    }

    private long lines(Tree tree) {
        long from = trees.getSourcePositions().getStartPosition(unit, tree);
        long to = trees.getSourcePositions().getEndPosition(unit, tree);
        boolean isWritten = from >= 0 && to >= 0;
        return isWritten ? unit.getLineMap().getLineNumber(to) - unit.getLineMap().getLineNumber(from) + 1 : 0;
    }

    @Override
    public Void visitVariable(VariableTree v, Void nothing) {
        TypeMirror type = element().asType();
        askType(v, type);
        if (parent() instanceof ClassTree && isStatic(v)) {
            boolean isConstant = CONSTANT_KINDS.contains(type.getKind()) || isString(type)
                || type instanceof ArrayType row && ROW_KINDS.contains(row.getComponentType().getKind());
            ask(5, v, "a static field is a constant", isConstant && v.getModifiers().getFlags().contains(Modifier.FINAL));
        }
        return super.visitVariable(v, nothing);
    }

    private static boolean isStatic(VariableTree v) {
        return v.getModifiers().getFlags().contains(Modifier.STATIC);
    }

    @Override
    public Void visitBlock(BlockTree b, Void nothing) {
        ask(5, b, "no static block", !b.isStatic());
        return super.visitBlock(b, nothing);
    }

    // ---- types

    private void askType(Tree place, TypeMirror type) {
        boolean isRow = type instanceof ArrayType;
        TypeMirror of = isRow ? ((ArrayType) type).getComponentType() : type;
        boolean isRowOfRows = of instanceof ArrayType;
        if (isRowOfRows) {
            of = ((ArrayType) of).getComponentType();
        }
        boolean isNumber = of.getKind().isPrimitive() || !isRow && of.getKind() == TypeKind.VOID;
        boolean isAllowed = isRow ? isNumber || !isRowOfRows && isOwn(of) : isNumber || isOwn(of) || isOfLibrary(of);
        ask(3, place, "no " + type, isAllowed);
    }

    private boolean isOwn(TypeMirror type) {
        return type.getKind() == TypeKind.DECLARED && isOwn(elementOf(type));
    }

    private boolean isOwn(Element of) {
        Element outermost = of;
        while (outermost.getEnclosingElement() != null && outermost.getEnclosingElement().getKind() != ElementKind.PACKAGE) {
            outermost = outermost.getEnclosingElement();
        }
        return outermost.getSimpleName().contentEquals("ChairCredits");
    }

    private boolean isOfLibrary(TypeMirror type) {
        return type.getKind() == TypeKind.DECLARED && LIBRARY.containsKey(elementOf(type).toString());
    }

    private static Element elementOf(TypeMirror type) {
        return ((DeclaredType) type).asElement();
    }

    private static boolean isString(TypeMirror type) {
        return type != null && type.toString().equals("java.lang.String");
    }

    private static boolean isStringOrInteger(TypeMirror type) {
        return isString(type) || type != null && type.toString().equals("java.lang.Integer");
    }

    // ---- calls, and what is made

    @Override
    public Void visitMethodInvocation(MethodInvocationTree call, Void nothing) {
        Element callee = trees.getElement(new TreePath(getCurrentPath(), call.getMethodSelect()));
        if (isOwn(callee)) {
            noteCall(callee);
        } else if (callee.getKind() != ElementKind.CONSTRUCTOR) {
            ask(4, call, "no " + callee.getEnclosingElement() + "." + callee, isOfLibrary(callee));
        }
        return super.visitMethodInvocation(call, nothing);
    }

    private static boolean isOfLibrary(Element method) {
        String owner = method.getEnclosingElement().toString();
        String name = method.getSimpleName().toString();
        if (NUMBER_CLASSES.contains(owner)) {
            return method.getModifiers().contains(Modifier.STATIC) && !name.endsWith("Exact");
        }
        return owner.equals("Array") && name.equals("clone") || LIBRARY.getOrDefault(owner, Set.of()).contains(name);
    }

    @Override
    public Void visitNewClass(NewClassTree made, Void nothing) {
        ask(2, made, "no class without a name", made.getClassBody() == null);
        TypeMirror type = typeOf(made);
        ask(4, made, "no new " + type, isOwn(type) || isOfLibrary(type));
        ask(12, made, "a constructor alone makes an object", isInConstructor());
        if (isOwn(type)) {
            noteCall(elementOf(type));
            noteCall(element());
        }
        return super.visitNewClass(made, nothing);
    }

    @Override
    public Void visitNewArray(NewArrayTree made, Void nothing) {
        ask(12, made, "a constructor alone makes an array", isInConstructor());
        return super.visitNewArray(made, nothing);
    }

    private boolean isInConstructor() {
        MethodTree method = methodAround();
        return method == null || method.getReturnType() == null;
    }

    /** None around what makes a field. */
    private MethodTree methodAround() {
        for (Tree around : getCurrentPath()) {
            if (around instanceof MethodTree m) {
                return m;
            }
        }
        return null;
    }

    /** What makes the fields is called by the name of the class. */
    private void noteCall(Element callee) {
        TreePath path = getCurrentPath();
        while (!(path.getLeaf() instanceof MethodTree) && !(path.getLeaf() instanceof ClassTree)) {
            path = path.getParentPath();
        }
        calls.computeIfAbsent(trees.getElement(path), c -> new LinkedHashSet<>()).add(callee);
    }

    private void askDepth(Element caller, Set<Element> ahead) {
        ask(8, unit, "no recursion by " + caller, !ahead.contains(caller));
        ask(11, unit, "calls at most " + DEEPEST + " deep: " + ahead, ahead.size() < DEEPEST);
        if (ahead.add(caller)) {
            for (Element callee : calls.getOrDefault(caller, Set.of())) {
                askDepth(callee, ahead);
            }
            ahead.remove(caller);
        }
    }

    // ---- what is reckoned

    @Override
    public Void visitBinary(BinaryTree b, Void nothing) {
        boolean isOfText = isString(typeOf(b.getLeftOperand())) || isString(typeOf(b.getRightOperand()));
        ask(10, b, "no text is joined by +", b.getKind() != Tree.Kind.PLUS || !isOfText);
        if (b.getKind() == Tree.Kind.EQUAL_TO || b.getKind() == Tree.Kind.NOT_EQUAL_TO) {
            boolean areTexts = isStringOrInteger(typeOf(b.getLeftOperand())) && isStringOrInteger(typeOf(b.getRightOperand()));
            ask(6, b, "no == between Strings or Integers", !areTexts);
        }
        if (b.getKind() == Tree.Kind.DIVIDE || b.getKind() == Tree.Kind.REMAINDER) {
            ask(7, b, "a divisor is tested", isConstant(b.getRightOperand()) || isTestedAhead(b.getRightOperand()));
        }
        return super.visitBinary(b, nothing);
    }

    @Override
    public Void visitCompoundAssignment(CompoundAssignmentTree a, Void nothing) {
        ask(10, a, "no text is joined by +=", !isString(typeOf(a.getVariable())));
        boolean divides = a.getKind() == Tree.Kind.DIVIDE_ASSIGNMENT || a.getKind() == Tree.Kind.REMAINDER_ASSIGNMENT;
        ask(7, a, "a divisor is tested", !divides || isConstant(a.getExpression()));
        return super.visitCompoundAssignment(a, nothing);
    }

    private boolean isConstant(ExpressionTree divisor) {
        Element named = trees.getElement(new TreePath(getCurrentPath(), divisor));
        Object value = named instanceof VariableElement v ? v.getConstantValue()
            : divisor instanceof LiteralTree literal ? literal.getValue() : null;
        return value instanceof Number number && number.longValue() != 0;
    }

    /** As in "divisor > 0 && ..", the one form that the class needs. */
    private boolean isTestedAhead(ExpressionTree divisor) {
        Tree behind = getCurrentPath().getLeaf();
        for (Tree around : getCurrentPath()) {
            if (around instanceof BinaryTree b && b.getKind() == Tree.Kind.CONDITIONAL_AND && b.getRightOperand() == behind
                && b.getLeftOperand().toString().equals(divisor + " > 0")) {
                return true;
            }
            behind = around;
        }
        return false;
    }

    @Override
    public Void visitTypeCast(TypeCastTree cast, Void nothing) {
        ask(6, cast, "a cast to a number", typeOf(cast.getType()).getKind().isPrimitive());
        return super.visitTypeCast(cast, nothing);
    }

    // ---- loops and switches

    @Override
    public Void visitForLoop(ForLoopTree loop, Void nothing) {
        ask(9, loop, "a loop has an end", loop.getCondition() != null && !isLiteral(loop.getCondition()));
        return super.visitForLoop(loop, nothing);
    }

    @Override
    public Void visitWhileLoop(WhileLoopTree loop, Void nothing) {
        ask(9, loop, "a loop has an end", !isLiteral(loop.getCondition()));
        return super.visitWhileLoop(loop, nothing);
    }

    @Override
    public Void visitDoWhileLoop(DoWhileLoopTree loop, Void nothing) {
        ask(9, loop, "a loop has an end", !isLiteral(loop.getCondition()));
        return super.visitDoWhileLoop(loop, nothing);
    }

    private static boolean isLiteral(ExpressionTree condition) {
        return condition instanceof ParenthesizedTree p ? isLiteral(p.getExpression()) : condition instanceof LiteralTree;
    }

    @Override
    public Void visitSwitch(SwitchTree s, Void nothing) {
        ask(10, s, "no switch on a text", !isString(typeOf(s.getExpression())));
        return super.visitSwitch(s, nothing);
    }

    @Override
    public Void visitSwitchExpression(SwitchExpressionTree s, Void nothing) {
        ask(10, s, "no switch on a text", !isString(typeOf(s.getExpression())));
        return super.visitSwitchExpression(s, nothing);
    }

    // ---- where the look is

    private Tree parent() {
        return getCurrentPath().getParentPath().getLeaf();
    }

    private Element element() {
        return trees.getElement(getCurrentPath());
    }

    private TypeMirror typeOf(Tree tree) {
        return trees.getTypeMirror(new TreePath(getCurrentPath(), tree));
    }
}
