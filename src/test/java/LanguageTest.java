import com.sun.source.tree.ArrayAccessTree;
import com.sun.source.tree.AssertTree;
import com.sun.source.tree.BinaryTree;
import com.sun.source.tree.ClassTree;
import com.sun.source.tree.CompilationUnitTree;
import com.sun.source.tree.ConditionalExpressionTree;
import com.sun.source.tree.DoWhileLoopTree;
import com.sun.source.tree.ExpressionTree;
import com.sun.source.tree.ForLoopTree;
import com.sun.source.tree.ImportTree;
import com.sun.source.tree.LambdaExpressionTree;
import com.sun.source.tree.LiteralTree;
import com.sun.source.tree.MemberReferenceTree;
import com.sun.source.tree.MethodInvocationTree;
import com.sun.source.tree.MethodTree;
import com.sun.source.tree.NewArrayTree;
import com.sun.source.tree.NewClassTree;
import com.sun.source.tree.SynchronizedTree;
import com.sun.source.tree.ThrowTree;
import com.sun.source.tree.Tree;
import com.sun.source.tree.TryTree;
import com.sun.source.tree.TypeCastTree;
import com.sun.source.tree.VariableTree;
import com.sun.source.tree.WhileLoopTree;
import com.sun.source.util.JavacTask;
import com.sun.source.util.TreePath;
import com.sun.source.util.TreePathScanner;
import com.sun.source.util.Trees;
import java.io.File;
import java.nio.file.Files;
import java.nio.file.Path;
import java.util.ArrayList;
import java.util.HashMap;
import java.util.HashSet;
import java.util.LinkedHashMap;
import java.util.List;
import java.util.Map;
import java.util.Set;
import java.util.regex.Pattern;
import javax.lang.model.element.Element;
import javax.lang.model.element.ElementKind;
import javax.lang.model.element.ExecutableElement;
import javax.lang.model.element.Modifier;
import javax.lang.model.element.TypeElement;
import javax.lang.model.element.VariableElement;
import javax.lang.model.type.ArrayType;
import javax.lang.model.type.TypeKind;
import javax.lang.model.type.TypeMirror;
import javax.tools.JavaCompiler;
import javax.tools.StandardJavaFileManager;
import javax.tools.ToolProvider;

/**
 * The source keeps to ../shared/LANGUAGE.md, as far as javac's own trees can tell; each row begins with
 * the number of the rule. It knows what the program uses now: what the rules allow beyond that (lists,
 * casts behind instanceof, recursion) has to be added here once the program needs it.
 */
public final class LanguageTest extends TreePathScanner<Void, Void> {
    private static final String SOURCE = "src/main/java/Countfall.java";
    private static final Set<String> EXCEPTIONS = Set.of("IllegalStateException", "IllegalArgumentException",
            "IndexOutOfBoundsException", "ArithmeticException", "UnsupportedOperationException",
            "NoSuchElementException", "RuntimeException");
    private static final Set<String> LIBRARY = Set.of("java.lang.Integer.bitCount", "java.lang.Long.bitCount",
            "java.lang.Object.<init>");
    private static final Set<TypeKind> NUMBERS = Set.of(TypeKind.INT, TypeKind.LONG, TypeKind.SHORT, TypeKind.BYTE,
            TypeKind.CHAR, TypeKind.DOUBLE, TypeKind.FLOAT);
    private static final int MOST_CLASSES = 13;
    private static final int MOST_FIELDS = 20;
    private static final int MOST_LINES = 60;
    private static final int MOST_PARAMETERS = 7;
    private static final int MOST_DEPTH = 8;

    private final Trees trees;
    private final CompilationUnitTree unit;
    private final Map<ExecutableElement, Set<ExecutableElement>> calls = new LinkedHashMap<>();
    private final Map<ExecutableElement, Integer> depths = new HashMap<>();
    private int classes = 0;

    private LanguageTest(Trees trees, CompilationUnitTree unit) {
        this.trees = trees;
        this.unit = unit;
    }

    public static void main(String[] args) throws Exception {
        JavaCompiler compiler = ToolProvider.getSystemJavaCompiler();
        StandardJavaFileManager files = compiler.getStandardFileManager(null, null, null);
        JavacTask task = (JavacTask) compiler.getTask(null, files, null, List.of("-proc:none"), null,
                files.getJavaFileObjects(new File(SOURCE)));
        CompilationUnitTree unit = task.parse().iterator().next();
        task.analyze();
        LanguageTest test = new LanguageTest(Trees.instance(task), unit);
        test.scan(unit, null);
        test.lookAtCalls();
        Check.due("1: a package", unit.getPackage(), null);
        Check.due("1: classes outside", unit.getTypeDecls().size(), 1);
        Check.due("11: more than " + MOST_CLASSES + " classes", test.classes > MOST_CLASSES, false);
        String source = Files.readString(Path.of(SOURCE));
        for (int i = 0; i < source.length(); i++) {
            Check.due("4: the sign at " + i + " is from 1 to 127", source.charAt(i) < 128, true);
        }
        Check.end();
    }

    private void keeps(String rule, boolean isKept) {
        Tree leaf = getCurrentPath().getLeaf();
        long line = unit.getLineMap().getLineNumber(trees.getSourcePositions().getStartPosition(unit, leaf));
        Check.due(rule + ", line " + line, isKept, true);
    }

    private Element element(Tree tree) {
        return trees.getElement(new TreePath(getCurrentPath(), tree));
    }

    private TypeMirror type(Tree tree) {
        return trees.getTypeMirror(new TreePath(getCurrentPath(), tree));
    }

    private static boolean isOwn(Element element) {
        Element top = element;
        while (top.getEnclosingElement() != null && top.getEnclosingElement().getKind() != ElementKind.PACKAGE) {
            top = top.getEnclosingElement();
        }
        return top.getSimpleName().contentEquals("Countfall");
    }

    private MethodTree method() {
        for (Tree tree : getCurrentPath()) {
            if (tree instanceof MethodTree) {
                return (MethodTree) tree;
            }
        }
        return null;
    }

    private ExecutableElement methodElement() {
        return (ExecutableElement) trees.getElement(trees.getPath(unit, method()));
    }

    private boolean isSaidInMethod(String what) {
        MethodTree method = method();
        return method != null && Pattern.compile("(?<![\\w.])" + Pattern.quote(what) + "(?!\\w)")
                .matcher(method.toString()).find();
    }

    private boolean isConstant(Tree tree) {
        if (tree instanceof LiteralTree) {
            return true;
        }
        Element element = element(tree);
        return element instanceof VariableElement && ((VariableElement) element).getConstantValue() != null;
    }

    // Rules 1 to 5: the face, classes inside, types, the library, static fields.

    @Override
    public Void visitImport(ImportTree tree, Void nothing) {
        keeps("4: " + tree, tree.getQualifiedIdentifier().toString().equals("java.util.NoSuchElementException"));
        return null;
    }

    @Override
    public Void visitClass(ClassTree tree, Void nothing) {
        classes++;
        boolean isTop = getCurrentPath().getParentPath().getLeaf() == unit;
        Set<Modifier> modifiers = tree.getModifiers().getFlags();
        keeps("2: " + tree.getSimpleName() + " is a static class", isTop || modifiers.contains(Modifier.STATIC));
        keeps("1: " + tree.getSimpleName() + " is public", isTop == modifiers.contains(Modifier.PUBLIC));
        int fields = 0;
        for (Tree member : tree.getMembers()) {
            keeps("5: a block in " + tree.getSimpleName(), member.getKind() != Tree.Kind.BLOCK);
            Element element = element(member);
            boolean isField = element != null && element.getKind() == ElementKind.FIELD;
            fields += isField && !element.getModifiers().contains(Modifier.STATIC) ? 1 : 0;
            if (isField && isTop) {
                keeps("1: " + element + " is private", element.getModifiers().contains(Modifier.PRIVATE));
            }
        }
        keeps("11: " + tree.getSimpleName() + " has some twenty fields", fields <= MOST_FIELDS);
        return super.visitClass(tree, nothing);
    }

    private boolean isAllowed(TypeMirror type) {
        if (type.getKind() == TypeKind.ARRAY) {
            TypeMirror of = ((ArrayType) type).getComponentType();
            return of.getKind() != TypeKind.ARRAY ? isAllowed(of)
                    : NUMBERS.contains(((ArrayType) of).getComponentType().getKind());
        }
        return type.getKind().isPrimitive() || type.getKind() == TypeKind.VOID || type.toString().startsWith("Countfall");
    }

    @Override
    public Void visitVariable(VariableTree tree, Void nothing) {
        VariableElement variable = (VariableElement) trees.getElement(getCurrentPath());
        keeps("3: the type of " + variable, isAllowed(variable.asType()));
        if (variable.getModifiers().contains(Modifier.STATIC)) {
            keeps("5: " + variable + " is a constant", variable.getConstantValue() != null);
        }
        return super.visitVariable(tree, nothing);
    }

    @Override
    public Void visitLambdaExpression(LambdaExpressionTree tree, Void nothing) {
        keeps("2: a lambda", false);
        return null;
    }

    @Override
    public Void visitMemberReference(MemberReferenceTree tree, Void nothing) {
        keeps("2: a method reference", false);
        return null;
    }

    @Override
    public Void visitMethodInvocation(MethodInvocationTree tree, Void nothing) {
        call((ExecutableElement) trees.getElement(getCurrentPath()));
        return super.visitMethodInvocation(tree, nothing);
    }

    @Override
    public Void visitNewClass(NewClassTree tree, Void nothing) {
        keeps("2: an anonymous class", tree.getClassBody() == null);
        if (getCurrentPath().getParentPath().getLeaf().getKind() != Tree.Kind.THROW) {
            call((ExecutableElement) trees.getElement(getCurrentPath()));
        }
        return super.visitNewClass(tree, nothing);
    }

    private void call(ExecutableElement called) {
        if (!isOwn(called)) {
            String owner = ((TypeElement) called.getEnclosingElement()).getQualifiedName().toString();
            keeps("4: " + owner + '.' + called, LIBRARY.contains(owner + '.' + called.getSimpleName()));
        } else if (method() != null) {
            calls.computeIfAbsent(methodElement(), key -> new HashSet<>()).add(called);
        }
    }

    // Rules 6, 7 and 9: exceptions, what the machine itself would throw, loops.

    @Override
    public Void visitThrow(ThrowTree tree, Void nothing) {
        keeps("6: throw new", tree.getExpression() instanceof NewClassTree);
        if (tree.getExpression() instanceof NewClassTree) {
            NewClassTree made = (NewClassTree) tree.getExpression();
            keeps("6: its class", EXCEPTIONS.contains(made.getIdentifier().toString()));
            for (ExpressionTree argument : made.getArguments()) {
                keeps("6: a written text", argument.getKind() == Tree.Kind.STRING_LITERAL);
            }
        }
        keeps("6: a throw in a constructor", methodElement().getKind() == ElementKind.METHOD);
        return super.visitThrow(tree, nothing);
    }

    @Override
    public Void visitTry(TryTree tree, Void nothing) {
        keeps("6: nothing is tried, as all is looked at first", false);
        return null;
    }

    @Override
    public Void visitSynchronized(SynchronizedTree tree, Void nothing) {
        keeps("6: synchronized", false);
        return null;
    }

    @Override
    public Void visitAssert(AssertTree tree, Void nothing) {
        keeps("6: assert", false);
        return null;
    }

    @Override
    public Void visitTypeCast(TypeCastTree tree, Void nothing) {
        keeps("7: a cast among classes", type(tree.getType()).getKind().isPrimitive());
        return super.visitTypeCast(tree, nothing);
    }

    @Override
    public Void visitArrayAccess(ArrayAccessTree tree, Void nothing) {
        String index = tree.getIndex().toString();
        keeps("7: " + tree + ", under its length", isSaidInMethod(index + " < " + tree.getExpression() + ".length"));
        keeps("7: " + tree + ", from 0", isSaidInMethod(index + " >= 0") || isSaidInMethod("int " + index + " = 0"));
        return super.visitArrayAccess(tree, nothing);
    }

    @Override
    public Void visitNewArray(NewArrayTree tree, Void nothing) {
        for (ExpressionTree length : tree.getDimensions()) {
            boolean isLookedAt = length instanceof ConditionalExpressionTree
                    && ((ConditionalExpressionTree) length).getCondition().toString().endsWith(" > 0");
            keeps("7: the length " + length, isLookedAt || isConstant(length));
        }
        return super.visitNewArray(tree, nothing);
    }

    @Override
    public Void visitBinary(BinaryTree tree, Void nothing) {
        TypeKind kind = type(tree).getKind();
        keeps("10: texts joined by +", kind != TypeKind.DECLARED);
        boolean divides = tree.getKind() == Tree.Kind.DIVIDE || tree.getKind() == Tree.Kind.REMAINDER;
        if (divides && (kind == TypeKind.INT || kind == TypeKind.LONG)) {
            ExpressionTree divisor = tree.getRightOperand();
            boolean isLookedAt = isSaidInMethod(divisor + " != 0L") || isSaidInMethod(divisor + " == 0L");
            keeps("7: the divisor " + divisor, isLookedAt || isConstant(divisor));
        }
        return super.visitBinary(tree, nothing);
    }

    /** A loop goes on while something is less or greater, so that a counter ends it. */
    private void lookAtLoop(ExpressionTree condition) {
        keeps("9: while " + condition, condition != null && condition.toString().matches(".*[^<>][<>][^<>].*"));
    }

    @Override
    public Void visitForLoop(ForLoopTree tree, Void nothing) {
        lookAtLoop(tree.getCondition());
        keeps("9: a counter", !tree.getUpdate().isEmpty());
        return super.visitForLoop(tree, nothing);
    }

    @Override
    public Void visitWhileLoop(WhileLoopTree tree, Void nothing) {
        lookAtLoop(tree.getCondition());
        return super.visitWhileLoop(tree, nothing);
    }

    @Override
    public Void visitDoWhileLoop(DoWhileLoopTree tree, Void nothing) {
        lookAtLoop(tree.getCondition());
        return super.visitDoWhileLoop(tree, nothing);
    }

    // Rules 8 and 11: recursion, parameters, lines, depth.

    @Override
    public Void visitMethod(MethodTree tree, Void nothing) {
        ExecutableElement method = (ExecutableElement) trees.getElement(getCurrentPath());
        calls.computeIfAbsent(method, key -> new HashSet<>());
        keeps("11: parameters of " + tree.getName(), tree.getParameters().size() <= MOST_PARAMETERS);
        keeps("3: what " + tree.getName() + " returns", isAllowed(method.getReturnType()));
        long from = trees.getSourcePositions().getStartPosition(unit, tree);
        long to = trees.getSourcePositions().getEndPosition(unit, tree);
        long lines = unit.getLineMap().getLineNumber(to < 0 ? from : to) - unit.getLineMap().getLineNumber(from);
        keeps("11: lines of " + tree.getName(), lines < MOST_LINES);
        return super.visitMethod(tree, nothing);
    }

    private void lookAtCalls() {
        for (ExecutableElement method : calls.keySet()) {
            Check.due("11: calls under " + method + " are over eight deep", depth(method, new HashSet<>()) > MOST_DEPTH,
                    false);
        }
    }

    /** How deep calls go from a method; one that has no body stands for all of its name. */
    private int depth(ExecutableElement method, Set<ExecutableElement> open) {
        Integer known = depths.get(method);
        if (known != null) {
            return known;
        }
        Check.due("8: " + method + " calls itself", open.add(method), true);
        List<ExecutableElement> next = new ArrayList<>(calls.getOrDefault(method, Set.of()));
        if (method.getModifiers().contains(Modifier.ABSTRACT)) {
            for (ExecutableElement other : calls.keySet()) {
                if (other != method && other.getSimpleName().equals(method.getSimpleName())) {
                    next.add(other);
                }
            }
        }
        int deepest = 0;
        for (ExecutableElement called : next) {
            deepest = Math.max(deepest, open.contains(called) ? MOST_DEPTH + 1 : depth(called, open));
        }
        open.remove(method);
        depths.put(method, deepest + 1);
        return deepest + 1;
    }
}
