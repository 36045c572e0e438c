import com.sun.source.tree.BinaryTree;
import com.sun.source.tree.BlockTree;
import com.sun.source.tree.ClassTree;
import com.sun.source.tree.CompilationUnitTree;
import com.sun.source.tree.DoWhileLoopTree;
import com.sun.source.tree.ExpressionTree;
import com.sun.source.tree.ForLoopTree;
import com.sun.source.tree.ImportTree;
import com.sun.source.tree.MethodInvocationTree;
import com.sun.source.tree.MethodTree;
import com.sun.source.tree.NewClassTree;
import com.sun.source.tree.Tree;
import com.sun.source.tree.VariableTree;
import com.sun.source.tree.WhileLoopTree;
import com.sun.source.util.JavacTask;
import com.sun.source.util.TreePath;
import com.sun.source.util.TreePathScanner;
import com.sun.source.util.Trees;
import java.io.IOException;
import java.util.ArrayDeque;
import java.util.Deque;
import java.util.HashMap;
import java.util.LinkedHashSet;
import java.util.List;
import java.util.Map;
import java.util.Set;
import javax.lang.model.element.Element;
import javax.lang.model.element.ElementKind;
import javax.lang.model.element.Modifier;
import javax.lang.model.type.ArrayType;
import javax.lang.model.type.TypeKind;
import javax.lang.model.type.TypeMirror;
import javax.tools.JavaCompiler;
import javax.tools.StandardJavaFileManager;
import javax.tools.ToolProvider;

/**
 * The rules of LANGUAGE.md as far as they can be seen from the source. Rule 1 has FaceTest, rule 12
 * RoomTest, rule 7 all tests that ask for what is not there. The list of what may be called is shorter
 * than the rules' own: it holds what MazeDesk calls now, and may grow up to what rule 4 lists.
 */
public final class LanguageTest extends TreePathScanner<Void, Void> {
    private static final String SOURCE = "src/main/java/MazeDesk.java";
    private static final Set<String> IMPORTS = Set.of("java.util.Arrays");
    private static final Set<String> CALLED = Set.of("java.lang.Object.Object()", "java.lang.Math.min(int,int)",
            "java.lang.Math.max(int,int)", "java.lang.String.charAt(int)", "java.util.Arrays.fill(int[],int)",
            "java.util.Arrays.fill(long[],long)");
    private static final Map<Tree.Kind, Integer> REFUSED_BY_RULE = Map.of(Tree.Kind.LAMBDA_EXPRESSION, 2,
            Tree.Kind.MEMBER_REFERENCE, 2, Tree.Kind.THROW, 6, Tree.Kind.TRY, 6, Tree.Kind.SYNCHRONIZED, 6,
            Tree.Kind.ASSERT, 6);
    private static final int MOST_LINES = 60;
    private static final int MOST_PARAMETERS = 7;
    private static final int MOST_CLASSES = 12;
    private static final int MOST_FIELDS = 20;
    private static final int MOST_DEEP = 8;

    private final Checks checks = new Checks();
    private final Trees trees;
    private final CompilationUnitTree unit;
    private final Map<String, Set<String>> callsOf = new HashMap<>();
    private final Deque<String> methods = new ArrayDeque<>();
    private int classes = 0;

    private LanguageTest(Trees trees, CompilationUnitTree unit) {
        this.trees = trees;
        this.unit = unit;
    }

    public static void main(String[] args) throws IOException {
        JavaCompiler compiler = ToolProvider.getSystemJavaCompiler();
        try (StandardJavaFileManager files = compiler.getStandardFileManager(null, null, null)) {
            JavacTask task = (JavacTask) compiler.getTask(null, files, null, List.of("--release", "17"), null,
                    files.getJavaFileObjects(SOURCE));
            CompilationUnitTree unit = task.parse().iterator().next();
            task.analyze();
            new LanguageTest(Trees.instance(task), unit).run();
        }
    }

    private void run() {
        scan(unit, null);
        holds(11, unit, classes <= MOST_CLASSES, classes + " classes");
        for (String method : callsOf.keySet()) {
            checkDepth(method);
        }
        checks.end();
    }

    private void holds(int rule, Tree where, boolean is, String what) {
        long line = unit.getLineMap().getLineNumber(startOf(where));
        checks.due("rule " + rule + ", line " + line + ": " + what, true, is);
    }

    private long startOf(Tree tree) {
        return Math.max(0, trees.getSourcePositions().getStartPosition(unit, tree));
    }

    private TypeMirror typeOf(Tree tree) {
        return trees.getTypeMirror(new TreePath(getCurrentPath(), tree));
    }

    private static boolean isOwn(String name) {
        return name.equals("MazeDesk") || name.startsWith("MazeDesk.");
    }

    private static boolean isListedType(TypeMirror type) {
        if (type instanceof ArrayType array) {
            TypeMirror element = array.getComponentType();
            if (element instanceof ArrayType inner) {
                return inner.getComponentType().getKind().isPrimitive();
            }
            return element.getKind().isPrimitive() || isOwn(element.toString());
        }
        return type.getKind().isPrimitive() || type.getKind() == TypeKind.VOID || isOwn(type.toString())
                || type.toString().equals("java.lang.String");
    }

    @Override
    public Void scan(Tree tree, Void none) {
        if (tree != null && REFUSED_BY_RULE.containsKey(tree.getKind())) {
            holds(REFUSED_BY_RULE.get(tree.getKind()), tree, false, "no " + tree.getKind());
        }
        return super.scan(tree, none);
    }

    @Override
    public Void visitImport(ImportTree tree, Void none) {
        holds(4, tree, IMPORTS.contains(tree.getQualifiedIdentifier().toString()), tree.toString().trim());
        return null;
    }

    @Override
    public Void visitClass(ClassTree tree, Void none) {
        classes++;
        Tree.Kind around = getCurrentPath().getParentPath().getLeaf().getKind();
        Set<Modifier> modifiers = tree.getModifiers().getFlags();
        boolean outermost = around == Tree.Kind.COMPILATION_UNIT;
        holds(1, tree, !outermost || tree.getSimpleName().contentEquals("MazeDesk"), "one class in the file");
        holds(2, tree, outermost || around == Tree.Kind.CLASS && modifiers.contains(Modifier.STATIC),
                tree.getSimpleName() + " is a static class inside");
        int fields = 0;
        for (Tree member : tree.getMembers()) {
            if (member instanceof VariableTree field && !field.getModifiers().getFlags().contains(Modifier.STATIC)) {
                fields++;
            }
        }
        holds(11, tree, fields <= MOST_FIELDS, tree.getSimpleName() + " has " + fields + " fields");
        return super.visitClass(tree, none);
    }

    @Override
    public Void visitVariable(VariableTree tree, Void none) {
        Element variable = trees.getElement(getCurrentPath());
        holds(3, tree, isListedType(variable.asType()), "the type of " + variable);
        if (variable.getKind() == ElementKind.FIELD && variable.getModifiers().contains(Modifier.STATIC)) {
            holds(5, tree, variable.getModifiers().contains(Modifier.FINAL), variable + " is final");
            TypeMirror type = variable.asType();
            holds(5, tree, type.getKind().isPrimitive() || type.toString().equals("java.lang.String"),
                    variable + " is a number or a text");
        }
        return super.visitVariable(tree, none);
    }

    @Override
    public Void visitMethod(MethodTree tree, Void none) {
        Element method = trees.getElement(getCurrentPath());
        long first = unit.getLineMap().getLineNumber(startOf(tree));
        long last = unit.getLineMap().getLineNumber(trees.getSourcePositions().getEndPosition(unit, tree));
        holds(11, tree, last - first < MOST_LINES, method + " has " + (last - first + 1) + " lines");
        holds(11, tree, tree.getParameters().size() <= MOST_PARAMETERS, "parameters of " + method);
        if (tree.getReturnType() != null) {
            holds(3, tree, isListedType(typeOf(tree.getReturnType())), "the type of " + method);
        }
        methods.push(nameOf(method));
        callsOf.put(nameOf(method), new LinkedHashSet<>());
        super.visitMethod(tree, none);
        methods.pop();
        return null;
    }

    private static String nameOf(Element method) {
        return method.getEnclosingElement() + "." + method;
    }

    private void called(Tree tree) {
        Element method = trees.getElement(getCurrentPath());
        if (isOwn(method.getEnclosingElement().toString())) {
            callsOf.get(methods.peek()).add(nameOf(method));
        } else {
            holds(4, tree, CALLED.contains(nameOf(method)), nameOf(method) + " is listed");
        }
    }

    @Override
    public Void visitMethodInvocation(MethodInvocationTree tree, Void none) {
        called(tree);
        return super.visitMethodInvocation(tree, none);
    }

    @Override
    public Void visitNewClass(NewClassTree tree, Void none) {
        holds(2, tree, tree.getClassBody() == null, "no class without a name");
        called(tree);
        return super.visitNewClass(tree, none);
    }

    @Override
    public Void visitBinary(BinaryTree tree, Void none) {
        boolean numbers = typeOf(tree.getLeftOperand()).getKind().isPrimitive()
                && typeOf(tree.getRightOperand()).getKind().isPrimitive();
        boolean equality = tree.getKind() == Tree.Kind.EQUAL_TO || tree.getKind() == Tree.Kind.NOT_EQUAL_TO;
        holds(equality ? 6 : 10, tree, numbers, tree.getKind() + " of numbers");
        return super.visitBinary(tree, none);
    }

    @Override
    public Void visitBlock(BlockTree tree, Void none) {
        Tree around = getCurrentPath().getParentPath().getLeaf();
        holds(5, tree, !(around instanceof ClassTree), "no block that stands in a class");
        return super.visitBlock(tree, none);
    }

    @Override
    public Void visitForLoop(ForLoopTree tree, Void none) {
        endIsSeen(tree, tree.getCondition());
        return super.visitForLoop(tree, none);
    }

    @Override
    public Void visitWhileLoop(WhileLoopTree tree, Void none) {
        endIsSeen(tree, tree.getCondition());
        return super.visitWhileLoop(tree, none);
    }

    @Override
    public Void visitDoWhileLoop(DoWhileLoopTree tree, Void none) {
        endIsSeen(tree, tree.getCondition());
        return super.visitDoWhileLoop(tree, none);
    }

    /** A bound is a comparison of order: "until it is found" would not do. */
    private void endIsSeen(Tree loop, ExpressionTree condition) {
        String text = condition == null ? "" : condition.toString();
        holds(9, loop, text.contains("<") || text.contains(">"), "a loop against a bound");
    }

    private void checkDepth(String method) {
        int deep = depth(method, new LinkedHashSet<>());
        checks.due("rules 8 and 11: calls from " + method + " go deeper than " + MOST_DEEP, false, deep > MOST_DEEP);
    }

    /** How many calls stand open at once below a method, itself counted; far too many if it recurses. */
    private int depth(String method, Set<String> open) {
        if (!open.add(method)) {
            return 1000;
        }
        int deepest = 0;
        for (String next : callsOf.getOrDefault(method, Set.of())) {
            deepest = Math.max(deepest, depth(next, open));
        }
        open.remove(method);
        return deepest + 1;
    }
}
