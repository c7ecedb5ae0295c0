import com.sun.source.tree.ArrayAccessTree;
import com.sun.source.tree.AssertTree;
import com.sun.source.tree.AssignmentTree;
import com.sun.source.tree.BinaryTree;
import com.sun.source.tree.BlockTree;
import com.sun.source.tree.CatchTree;
import com.sun.source.tree.ClassTree;
import com.sun.source.tree.CompilationUnitTree;
import com.sun.source.tree.CompoundAssignmentTree;
import com.sun.source.tree.ConditionalExpressionTree;
import com.sun.source.tree.DoWhileLoopTree;
import com.sun.source.tree.ExpressionTree;
import com.sun.source.tree.ForLoopTree;
import com.sun.source.tree.IfTree;
import com.sun.source.tree.ImportTree;
import com.sun.source.tree.LambdaExpressionTree;
import com.sun.source.tree.LiteralTree;
import com.sun.source.tree.MemberReferenceTree;
import com.sun.source.tree.MethodInvocationTree;
import com.sun.source.tree.MethodTree;
import com.sun.source.tree.NewArrayTree;
import com.sun.source.tree.NewClassTree;
import com.sun.source.tree.ParenthesizedTree;
import com.sun.source.tree.ReturnTree;
import com.sun.source.tree.StatementTree;
import com.sun.source.tree.SynchronizedTree;
import com.sun.source.tree.ThrowTree;
import com.sun.source.tree.Tree;
import com.sun.source.tree.TryTree;
import com.sun.source.tree.TypeCastTree;
import com.sun.source.tree.UnaryTree;
import com.sun.source.tree.VariableTree;
import com.sun.source.tree.WhileLoopTree;
import com.sun.source.util.JavacTask;
import com.sun.source.util.SourcePositions;
import com.sun.source.util.TreePath;
import com.sun.source.util.TreePathScanner;
import com.sun.source.util.TreeScanner;
import com.sun.source.util.Trees;
import java.io.IOException;
import java.net.URI;
import java.util.ArrayList;
import java.util.Arrays;
import java.util.LinkedHashMap;
import java.util.LinkedHashSet;
import java.util.List;
import java.util.Map;
import java.util.Set;
import java.util.TreeSet;
import javax.lang.model.element.Element;
import javax.lang.model.element.ElementKind;
import javax.lang.model.element.Modifier;
import javax.lang.model.element.TypeElement;
import javax.lang.model.element.VariableElement;
import javax.lang.model.type.ArrayType;
import javax.lang.model.type.DeclaredType;
import javax.lang.model.type.TypeKind;
import javax.lang.model.type.TypeMirror;
import javax.tools.Diagnostic;
import javax.tools.JavaFileObject;
import javax.tools.SimpleJavaFileObject;
import javax.tools.ToolProvider;

/**
 * Looks through the class's source for what LANGUAGE.md does not leave. Each fault begins with the
 * rule's number. Where a rule asks for a reader's judgment (is a cast safe, does a recursion or a
 * while loop end, is a caught exception thrown by code), this refuses the thing altogether: the
 * class does without.
 */
final class LanguageRules extends TreePathScanner<Void, Void> {
    private static final int MOST_PARAMETERS = 7;
    private static final int MOST_LINES = 60;
    private static final int MOST_DEPTH = 8;
    private static final int MOST_CLASSES = 12;
    private static final int MOST_FIELDS = 20;

    private static final Set<String> EXCEPTIONS = Set.of("IllegalStateException", "IllegalArgumentException",
            "IndexOutOfBoundsException", "ArithmeticException", "UnsupportedOperationException",
            "NoSuchElementException", "RuntimeException");

    private static final Map<String, Set<String>> LIBRARY = Map.of(
            "String", Set.of("length", "charAt", "isEmpty", "equals", "indexOf", "substring", "toCharArray"),
            "StringBuilder", Set.of("append", "charAt", "setCharAt", "setLength", "deleteCharAt", "reverse",
                    "length", "toString"),
            "Integer", Set.of("compare", "max", "min", "bitCount", "signum", "numberOfLeadingZeros",
                    "numberOfTrailingZeros", "highestOneBit", "lowestOneBit"),
            "Long", Set.of("compare", "max", "min", "bitCount", "signum", "numberOfLeadingZeros",
                    "numberOfTrailingZeros", "highestOneBit", "lowestOneBit"),
            "Math", Set.of("max", "min", "abs", "floorDiv", "floorMod"),
            "System", Set.of("arraycopy"),
            "Arrays", Set.of("copyOf", "copyOfRange", "fill"));

    private final List<String> faults = new ArrayList<>();
    private final Map<Element, Set<Element>> calls = new LinkedHashMap<>();
    private final Trees trees;
    private final SourcePositions positions;
    private final CompilationUnitTree unit;
    private int classes = 0;

    private LanguageRules(Trees trees, CompilationUnitTree unit) {
        this.trees = trees;
        this.unit = unit;
        positions = trees.getSourcePositions();
    }

    static List<String> faults(String source) throws IOException {
        JavaFileObject file = new SimpleJavaFileObject(URI.create("string:///MarketWeeks.java"),
                JavaFileObject.Kind.SOURCE) {
            @Override
            public CharSequence getCharContent(boolean ignoreErrors) {
                return source;
            }
        };
        List<String> messages = new ArrayList<>();
        JavacTask task = (JavacTask) ToolProvider.getSystemJavaCompiler().getTask(null, null,
                message -> {
                    if (message.getKind() == Diagnostic.Kind.ERROR) {
                        messages.add("does not compile: " + message);
                    }
                }, List.of("--release", "17", "-proc:none"), null, List.of(file));
        CompilationUnitTree unit = task.parse().iterator().next();
        task.analyze();
        if (!messages.isEmpty()) {
            return messages;
        }
        LanguageRules rules = new LanguageRules(Trees.instance(task), unit);
        rules.scan(unit, null);
        rules.lookAtCalls();
        return rules.faults;
    }

    private void fault(int rule, String what, Tree where) {
        long line = unit.getLineMap().getLineNumber(positions.getStartPosition(unit, where));
        faults.add("rule " + rule + ", line " + line + ": " + what);
    }

    private void unless(boolean isRight, int rule, String what, Tree where) {
        if (!isRight) {
            fault(rule, what, where);
        }
    }

    // ---- rules 1, 2, 5, 11: the file, its classes, their members

    @Override
    public Void visitCompilationUnit(CompilationUnitTree tree, Void none) {
        unless(tree.getPackageName() == null, 1, "a package", tree);
        unless(tree.getTypeDecls().size() == 1, 1, "another class beside the public one", tree);
        return super.visitCompilationUnit(tree, none);
    }

    @Override
    public Void visitImport(ImportTree tree, Void none) {
        boolean isLeft = List.of("java.util.ArrayList", "java.util.List", "java.util.Arrays", "java.util.Iterator",
                "java.util.NoSuchElementException").contains(tree.getQualifiedIdentifier().toString());
        unless(isLeft && !tree.isStatic(), 4, "imported " + tree.getQualifiedIdentifier(), tree);
        return null;
    }

    @Override
    public Void visitClass(ClassTree tree, Void none) {
        classes++;
        Set<Modifier> modifiers = tree.getModifiers().getFlags();
        Tree.Kind around = getCurrentPath().getParentPath().getLeaf().getKind();
        if (around == Tree.Kind.COMPILATION_UNIT) {
            unless(modifiers.contains(Modifier.PUBLIC) && modifiers.contains(Modifier.FINAL), 1,
                    "the class is not public and final", tree);
        } else {
            unless(around == Tree.Kind.CLASS || around == Tree.Kind.INTERFACE || around == Tree.Kind.ENUM
                    || around == Tree.Kind.RECORD, 2, "a class inside a method", tree);
            unless(!modifiers.contains(Modifier.PUBLIC) && !modifiers.contains(Modifier.PROTECTED), 1,
                    "a class inside that is public or protected", tree);
        }
        int fields = 0;
        for (Tree member : tree.getMembers()) {
            boolean isStaticBlock = member instanceof BlockTree && ((BlockTree) member).isStatic();
            unless(!isStaticBlock, 5, "a static block", member);
            if (member instanceof VariableTree) {
                boolean isStatic = ((VariableTree) member).getModifiers().getFlags().contains(Modifier.STATIC);
                fields += isStatic ? 0 : 1;
            }
        }
        unless(fields <= MOST_FIELDS, 11, "more than " + MOST_FIELDS + " fields", tree);
        unless(classes <= MOST_CLASSES, 11, "more than " + MOST_CLASSES + " classes", tree);
        return super.visitClass(tree, none);
    }

    @Override
    public Void visitMethod(MethodTree tree, Void none) {
        unless(tree.getParameters().size() <= MOST_PARAMETERS, 11, "too many parameters", tree);
        long first = unit.getLineMap().getLineNumber(positions.getStartPosition(unit, tree));
        long last = unit.getLineMap().getLineNumber(positions.getEndPosition(unit, tree));
        unless(last - first < MOST_LINES, 11, "a method of more than " + MOST_LINES + " lines", tree);
        String name = tree.getName().toString();
        unless(!List.of("equals", "hashCode", "toString", "finalize", "clone").contains(name), 6, "its own " + name,
                tree);
        unless(!tree.getModifiers().getFlags().contains(Modifier.SYNCHRONIZED), 6, "synchronized", tree);
        unless(!tree.getModifiers().getFlags().contains(Modifier.NATIVE), 4, "native", tree);
        if (tree.getReturnType() != null) {
            type(tree.getReturnType(), tree);
        }
        calls.computeIfAbsent(trees.getElement(getCurrentPath()), method -> new LinkedHashSet<>());
        return super.visitMethod(tree, none);
    }

    @Override
    public Void visitLambdaExpression(LambdaExpressionTree tree, Void none) {
        fault(2, "a lambda", tree);
        return super.visitLambdaExpression(tree, none);
    }

    @Override
    public Void visitMemberReference(MemberReferenceTree tree, Void none) {
        fault(2, "a method reference", tree);
        return super.visitMemberReference(tree, none);
    }

    @Override
    public Void visitVariable(VariableTree tree, Void none) {
        boolean isCaught = getCurrentPath().getParentPath().getLeaf() instanceof CatchTree;
        if (!isCaught) {
            type(tree.getType() == null ? tree : tree.getType(), tree);
        }
        Element element = trees.getElement(getCurrentPath());
        if (element != null && element.getKind() == ElementKind.FIELD
                && element.getModifiers().contains(Modifier.STATIC)) {
            staticField(tree, element);
        }
        return super.visitVariable(tree, none);
    }

    private void staticField(VariableTree tree, Element field) {
        unless(field.getModifiers().contains(Modifier.FINAL), 5, "a static field that is not final", tree);
        TypeMirror type = field.asType();
        if (type.getKind() == TypeKind.ARRAY) {
            boolean isWrittenOut = tree.getInitializer() instanceof NewArrayTree
                    && ((NewArrayTree) tree.getInitializer()).getInitializers() != null
                    && List.of(TypeKind.INT, TypeKind.LONG, TypeKind.CHAR, TypeKind.BYTE)
                            .contains(((ArrayType) type).getComponentType().getKind());
            unless(isWrittenOut, 5, "a static array that is not written out", tree);
        } else {
            unless(List.of("int", "long", "boolean", "char", "java.lang.String").contains(type.toString()), 5,
                    "a static field of another kind", tree);
        }
    }

    // ---- rule 3: types

    private void type(Tree tree, Tree where) {
        TypeMirror type = trees.getTypeMirror(new TreePath(getCurrentPath(), tree));
        unless(type != null && isLeft(type, 1), 3, "the type " + type, where);
    }

    private boolean isLeft(TypeMirror type, int dimensions) {
        if (type.getKind() == TypeKind.ARRAY) {
            TypeMirror component = ((ArrayType) type).getComponentType();
            boolean isOfNumbers = component.getKind() == TypeKind.ARRAY
                    && ((ArrayType) component).getComponentType().getKind().isPrimitive();
            return dimensions > 0 && (isOfNumbers ? isLeft(component, 1) : isLeft(component, 0));
        }
        if (type.getKind() == TypeKind.DECLARED) {
            String name = ((DeclaredType) type).asElement().toString();
            return isOwn(((DeclaredType) type).asElement()) || List.of("java.lang.String", "java.lang.StringBuilder",
                    "java.lang.Integer", "java.util.ArrayList", "java.util.List").contains(name);
        }
        return type.getKind().isPrimitive() || type.getKind() == TypeKind.VOID
                || type.getKind() == TypeKind.TYPEVAR;
    }

    /** Declared in the file that is looked at. */
    private boolean isOwn(Element element) {
        return trees.getPath(element) != null
                && trees.getPath(element).getCompilationUnit().getSourceFile().equals(unit.getSourceFile());
    }

    // ---- rules 4, 8, 11, 13: what is called

    @Override
    public Void visitMethodInvocation(MethodInvocationTree tree, Void none) {
        Element called = trees.getElement(getCurrentPath());
        String name = called.getSimpleName().toString();
        if (isOwn(called)) {
            calls.computeIfAbsent(method(), method -> new LinkedHashSet<>()).add(called);
        } else if (!name.equals("<init>")) {
            TypeElement owner = (TypeElement) called.getEnclosingElement();
            boolean isArrayClone = name.equals("clone") && tree.getMethodSelect().toString().endsWith(".clone");
            boolean isLeft = owner.getQualifiedName().toString().matches("java\\.(lang|util)\\.\\w+")
                    && LIBRARY.getOrDefault(owner.getSimpleName().toString(), Set.of()).contains(name);
            unless(isLeft || isArrayClone, 4, "called " + owner.getQualifiedName() + "." + name, tree);
            if (name.equals("floorDiv") || name.equals("floorMod")) {
                divisor(tree.getArguments().get(1), tree);
            }
        }
        return super.visitMethodInvocation(tree, none);
    }

    private Element method() {
        TreePath path = getCurrentPath();
        while (path != null && !(path.getLeaf() instanceof MethodTree)) {
            path = path.getParentPath();
        }
        return path == null ? null : trees.getElement(path);
    }

    private void lookAtCalls() {
        for (Element method : calls.keySet()) {
            if (method != null) {
                int depth = depth(method, new ArrayList<>());
                unless(depth <= MOST_DEPTH, 11, method + " opens " + depth + " calls", trees.getTree(method));
            }
        }
    }

    private int depth(Element method, List<Element> open) {
        if (open.contains(method)) {
            fault(8, method + " calls itself", trees.getTree(method));
            return 0;
        }
        List<Element> more = new ArrayList<>(open);
        more.add(method);
        int deepest = 0;
        for (Element called : calls.getOrDefault(method, Set.of())) {
            deepest = Math.max(deepest, depth(called, more));
        }
        return 1 + deepest;
    }

    // ---- rules 4, 6, 12: what is made

    @Override
    public Void visitNewClass(NewClassTree tree, Void none) {
        Element made = trees.getElement(getCurrentPath()).getEnclosingElement();
        String name = made.toString();
        boolean isThrown = getCurrentPath().getParentPath().getLeaf() instanceof ThrowTree;
        boolean isLeft = isOwn(made) || isThrown || name.equals("java.lang.StringBuilder")
                || name.equals("java.util.ArrayList")
                || tree.toString().startsWith("new String(") && tree.getArguments().size() == 1;
        unless(isLeft, 4, "made a " + name, tree);
        if (!isThrown) {
            unless(!isInLoop(), 12, "made in a loop: " + tree, tree);
        }
        return super.visitNewClass(tree, none);
    }

    @Override
    public Void visitNewArray(NewArrayTree tree, Void none) {
        for (ExpressionTree length : tree.getDimensions()) {
            unless(isConstant(length, 0), 7, "a length that is no constant: " + length, tree);
        }
        unless(!isInLoop(), 12, "made in a loop: " + tree, tree);
        return super.visitNewArray(tree, none);
    }

    private boolean isInLoop() {
        for (TreePath path = getCurrentPath(); path != null; path = path.getParentPath()) {
            Tree.Kind kind = path.getLeaf().getKind();
            if (kind == Tree.Kind.FOR_LOOP || kind == Tree.Kind.ENHANCED_FOR_LOOP || kind == Tree.Kind.WHILE_LOOP
                    || kind == Tree.Kind.DO_WHILE_LOOP) {
                return true;
            }
        }
        return false;
    }

    // ---- rule 6: exceptions, and what is equal

    @Override
    public Void visitThrow(ThrowTree tree, Void none) {
        boolean isLeft = false;
        if (tree.getExpression() instanceof NewClassTree) {
            NewClassTree made = (NewClassTree) tree.getExpression();
            List<? extends ExpressionTree> words = made.getArguments();
            isLeft = EXCEPTIONS.contains(made.getIdentifier().toString()) && made.getClassBody() == null
                    && (words.isEmpty() || words.size() == 1 && words.get(0) instanceof LiteralTree);
        }
        unless(isLeft, 6, "thrown: " + tree.getExpression(), tree);
        Element method = method();
        unless(method != null && method.getKind() != ElementKind.CONSTRUCTOR, 6, "a throw in a constructor", tree);
        return super.visitThrow(tree, none);
    }

    @Override
    public Void visitTry(TryTree tree, Void none) {
        fault(6, "a try", tree);
        return super.visitTry(tree, none);
    }

    @Override
    public Void visitSynchronized(SynchronizedTree tree, Void none) {
        fault(6, "synchronized", tree);
        return super.visitSynchronized(tree, none);
    }

    @Override
    public Void visitAssert(AssertTree tree, Void none) {
        fault(6, "an assert", tree);
        return super.visitAssert(tree, none);
    }

    // ---- rules 6, 7, 10: operators

    @Override
    public Void visitBinary(BinaryTree tree, Void none) {
        TypeMirror left = typeOf(tree.getLeftOperand());
        TypeMirror right = typeOf(tree.getRightOperand());
        switch (tree.getKind()) {
            case PLUS:
                unless(!isText(left) && !isText(right), 10, "texts joined by +", tree);
                break;
            case EQUAL_TO: case NOT_EQUAL_TO:
                boolean isOfTwo = (isText(left) || isBoxed(left)) && right.getKind() == TypeKind.DECLARED;
                unless(!isOfTwo, 6, "== or != between texts or Integers", tree);
                break;
            case DIVIDE: case REMAINDER:
                divisor(tree.getRightOperand(), tree);
                break;
            default:
                break;
        }
        return super.visitBinary(tree, none);
    }

    @Override
    public Void visitCompoundAssignment(CompoundAssignmentTree tree, Void none) {
        unless(!isText(typeOf(tree.getVariable())), 10, "texts joined by +=", tree);
        if (tree.getKind() == Tree.Kind.DIVIDE_ASSIGNMENT || tree.getKind() == Tree.Kind.REMAINDER_ASSIGNMENT) {
            divisor(tree.getExpression(), tree);
        }
        return super.visitCompoundAssignment(tree, none);
    }

    private TypeMirror typeOf(ExpressionTree tree) {
        return trees.getTypeMirror(new TreePath(getCurrentPath(), tree));
    }

    private static boolean isText(TypeMirror type) {
        return type.toString().equals("java.lang.String");
    }

    private static boolean isBoxed(TypeMirror type) {
        return type.toString().equals("java.lang.Integer");
    }

    private void divisor(ExpressionTree divisor, Tree where) {
        unless(isConstant(divisor, 1) || isLookedAt(divisor, divisor + " > 0"), 7,
                "a divisor that is not looked at: " + divisor, where);
    }

    /** A number that is written, or the name of a constant, and not below this. */
    private boolean isConstant(ExpressionTree tree, int least) {
        Object value = tree instanceof LiteralTree ? ((LiteralTree) tree).getValue() : null;
        Element named = trees.getElement(new TreePath(getCurrentPath(), tree));
        if (named instanceof VariableElement) {
            value = ((VariableElement) named).getConstantValue();
        }
        return value instanceof Integer && (Integer) value >= least || value instanceof Long && (Long) value >= least;
    }

    @Override
    public Void visitTypeCast(TypeCastTree tree, Void none) {
        unless(typeOf(tree.getExpression()).getKind().isPrimitive(), 7, "a cast of an object", tree);
        return super.visitTypeCast(tree, none);
    }

    @Override
    public Void visitLiteral(LiteralTree tree, Void none) {
        if (tree.getValue() instanceof String || tree.getValue() instanceof Character) {
            boolean isLeft = tree.getValue().toString().chars().allMatch(sign -> sign >= 1 && sign <= 127);
            unless(isLeft, 4, "a constant with another sign", tree);
        }
        return super.visitLiteral(tree, none);
    }

    // ---- rule 7: an index is looked at

    @Override
    public Void visitArrayAccess(ArrayAccessTree tree, Void none) {
        String condition = "isPlace(" + tree.getIndex() + ")";
        boolean isLeft = isLookedAt(tree.getIndex(), condition) && isPlaceLooksAt(tree.getExpression().toString());
        unless(isLeft, 7, "an index that is not looked at: " + tree, tree);
        return super.visitArrayAccess(tree, none);
    }

    /** The class's own isPlace(index) compares the index with 0 and with this array's length. */
    private boolean isPlaceLooksAt(String array) {
        for (Tree member : ((ClassTree) unit.getTypeDecls().get(0)).getMembers()) {
            MethodTree tree = member instanceof MethodTree ? (MethodTree) member : null;
            if (tree != null && tree.getName().contentEquals("isPlace") && tree.getParameters().size() == 1) {
                String index = tree.getParameters().get(0).getName().toString();
                List<String> compared = Arrays.asList(tree.getBody().toString().split("return |&&|[;{}]"));
                compared.replaceAll(String::trim);
                return compared.contains(index + " >= 0") && compared.contains(index + " < " + array + ".length");
            }
        }
        return false;
    }

    /** Where this stands, the condition holds: it is the true part of ?: or if, or behind an if that leaves. */
    private boolean isLookedAt(Tree tree, String condition) {
        Tree inner = tree;
        for (TreePath path = getCurrentPath(); path != null && !(inner instanceof MethodTree);
                path = path.getParentPath()) {
            Tree outer = path.getLeaf();
            if (outer instanceof ConditionalExpressionTree) {
                ConditionalExpressionTree choice = (ConditionalExpressionTree) outer;
                if (choice.getTrueExpression() == inner && holds(choice.getCondition(), condition)) {
                    return true;
                }
            } else if (outer instanceof IfTree) {
                IfTree choice = (IfTree) outer;
                if (choice.getThenStatement() == inner && holds(choice.getCondition(), condition)) {
                    return true;
                }
            } else if (outer instanceof BlockTree && isBehindLeaving((BlockTree) outer, inner, condition)) {
                return true;
            }
            inner = outer;
        }
        return false;
    }

    private static boolean holds(ExpressionTree written, String condition) {
        return bare(written).equals(condition);
    }

    private static String bare(ExpressionTree tree) {
        return tree instanceof ParenthesizedTree ? bare(((ParenthesizedTree) tree).getExpression()) : tree.toString();
    }

    private static boolean isBehindLeaving(BlockTree block, Tree until, String condition) {
        for (StatementTree statement : block.getStatements()) {
            if (statement == until) {
                return false;
            }
            if (statement instanceof IfTree && holds(((IfTree) statement).getCondition(), "!" + condition)
                    && leaves(((IfTree) statement).getThenStatement())) {
                return true;
            }
        }
        return false;
    }

    private static boolean leaves(StatementTree statement) {
        if (statement instanceof BlockTree) {
            List<? extends StatementTree> inside = ((BlockTree) statement).getStatements();
            return !inside.isEmpty() && leaves(inside.get(inside.size() - 1));
        }
        return statement instanceof ThrowTree || statement instanceof ReturnTree;
    }

    // ---- rule 9: loops

    @Override
    public Void visitWhileLoop(WhileLoopTree tree, Void none) {
        fault(9, "a loop without a counter", tree);
        return super.visitWhileLoop(tree, none);
    }

    @Override
    public Void visitDoWhileLoop(DoWhileLoopTree tree, Void none) {
        fault(9, "a loop without a counter", tree);
        return super.visitDoWhileLoop(tree, none);
    }

    @Override
    public Void visitForLoop(ForLoopTree tree, Void none) {
        boolean isCounted = tree.getInitializer().size() == 1 && tree.getInitializer().get(0) instanceof VariableTree
                && tree.getCondition() instanceof BinaryTree && tree.getUpdate().size() == 1;
        if (isCounted) {
            String counter = ((VariableTree) tree.getInitializer().get(0)).getName().toString();
            BinaryTree condition = (BinaryTree) tree.getCondition();
            boolean isBound = condition.getKind() == Tree.Kind.LESS_THAN
                    || condition.getKind() == Tree.Kind.LESS_THAN_EQUAL;
            Set<String> changed = changedIn(tree.getStatement());
            isCounted = isBound && condition.getLeftOperand().toString().equals(counter)
                    && tree.getUpdate().get(0).toString().equals(counter + "++;")
                    && !changed.contains(counter) && !changed.contains(condition.getRightOperand().toString());
        }
        unless(isCounted, 9, "a loop whose end can't be seen: " + tree.getCondition(), tree);
        return super.visitForLoop(tree, none);
    }

    private static Set<String> changedIn(Tree body) {
        Set<String> changed = new TreeSet<>();
        new TreeScanner<Void, Void>() {
            @Override
            public Void visitAssignment(AssignmentTree tree, Void none) {
                changed.add(tree.getVariable().toString());
                return super.visitAssignment(tree, none);
            }

            @Override
            public Void visitCompoundAssignment(CompoundAssignmentTree tree, Void none) {
                changed.add(tree.getVariable().toString());
                return super.visitCompoundAssignment(tree, none);
            }

            @Override
            public Void visitUnary(UnaryTree tree, Void none) {
                boolean isChange = Arrays.asList(Tree.Kind.PREFIX_INCREMENT, Tree.Kind.POSTFIX_INCREMENT,
                        Tree.Kind.PREFIX_DECREMENT, Tree.Kind.POSTFIX_DECREMENT).contains(tree.getKind());
                if (isChange) {
                    changed.add(tree.getExpression().toString());
                }
                return super.visitUnary(tree, none);
            }
        }.scan(body, null);
        return changed;
    }
}
