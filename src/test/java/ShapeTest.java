import com.sun.source.tree.ArrayAccessTree;
import com.sun.source.tree.AssignmentTree;
import com.sun.source.tree.BinaryTree;
import com.sun.source.tree.ClassTree;
import com.sun.source.tree.CompilationUnitTree;
import com.sun.source.tree.CompoundAssignmentTree;
import com.sun.source.tree.ExpressionTree;
import com.sun.source.tree.MethodInvocationTree;
import com.sun.source.tree.MethodTree;
import com.sun.source.tree.NewArrayTree;
import com.sun.source.tree.NewClassTree;
import com.sun.source.tree.Tree;
import com.sun.source.tree.TypeCastTree;
import com.sun.source.tree.UnaryTree;
import com.sun.source.tree.VariableTree;
import com.sun.source.util.JavacTask;
import com.sun.source.util.TreePath;
import com.sun.source.util.TreePathScanner;
import com.sun.source.util.Trees;
import java.io.IOException;
import java.nio.file.Path;
import java.util.ArrayList;
import java.util.List;
import java.util.Map;
import java.util.Set;
import java.util.TreeMap;
import java.util.TreeSet;
import javax.lang.model.element.Element;
import javax.lang.model.element.ElementKind;
import javax.lang.model.element.Modifier;
import javax.lang.model.type.TypeMirror;
import javax.tools.JavaCompiler;
import javax.tools.StandardJavaFileManager;
import javax.tools.ToolProvider;

/**
 * What of LANGUAGE.md can be seen in the tree that javac makes of the program: which calls stand open at once, that none
 * comes back to itself, what is called of the library, where objects are made, how long methods are.
 */
final class ShapeTest {
    private static final Path PROGRAM = Path.of("src/main/java/FlaringWords.java");
    private static final int DEEPEST = 8;
    private static final int LONGEST = 60;
    private static final int MOST_PARAMETERS = 7;
    private static final int MOST_CLASSES = 12;

    /** Of what LANGUAGE.md 4 allows, what the program needs: another one is looked up there, and put here. */
    private static final Set<String> LIBRARY = Set.of("java.lang.Math.abs", "java.lang.Math.max", "java.lang.Math.min",
            "java.lang.System.arraycopy", "Array.clone");
    private static final Set<String> STATIC_TYPES = Set.of("int", "long", "boolean", "char", "java.lang.String",
            "int[]", "long[]", "char[]", "byte[]");
    private static final Set<String> NUMBERS = Set.of("int", "long", "short", "byte", "char");
    private static final Set<Tree.Kind> COUNTING = Set.of(Tree.Kind.PREFIX_INCREMENT, Tree.Kind.PREFIX_DECREMENT,
            Tree.Kind.POSTFIX_INCREMENT, Tree.Kind.POSTFIX_DECREMENT);
    private static final Set<Tree.Kind> RULED_OUT = Set.of(Tree.Kind.THROW, Tree.Kind.TRY, Tree.Kind.CATCH,
            Tree.Kind.SYNCHRONIZED, Tree.Kind.ASSERT, Tree.Kind.LAMBDA_EXPRESSION, Tree.Kind.MEMBER_REFERENCE,
            Tree.Kind.ANNOTATION, Tree.Kind.IMPORT, Tree.Kind.PACKAGE);

    private static final Checks CHECKS = new Checks("ShapeTest");

    private final Trees trees;
    private final CompilationUnitTree unit;
    private final Map<String, Set<String>> calls = new TreeMap<>();
    private final Set<String> face = new TreeSet<>();
    private int classes = 0;

    private ShapeTest(Trees trees, CompilationUnitTree unit) {
        this.trees = trees;
        this.unit = unit;
    }

    public static void main(String[] args) throws IOException {
        JavaCompiler compiler = ToolProvider.getSystemJavaCompiler();
        try (StandardJavaFileManager files = compiler.getStandardFileManager(null, null, null)) {
            JavacTask task = (JavacTask) compiler.getTask(null, files, null, List.of("-proc:none"), null,
                    files.getJavaFileObjects(PROGRAM));
            CompilationUnitTree unit = task.parse().iterator().next();
            task.analyze();
            ShapeTest test = new ShapeTest(Trees.instance(task), unit);
            test.new Look().scan(unit, null);
            test.callsGoDown();
        }
        CHECKS.end();
    }

    // ---- calls

    private void callsGoDown() {
        CHECKS.due("methods of the face, and the constructor", 25, face.size());
        CHECKS.holds(classes + " classes", classes <= MOST_CLASSES);
        for (String method : face) {
            List<String> deepest = deepestFrom(method, new ArrayList<>());
            CHECKS.holds("calls at most " + DEEPEST + " deep: " + deepest, deepest.size() <= DEEPEST);
        }
    }

    private List<String> deepestFrom(String method, List<String> open) {
        List<String> deepest = new ArrayList<>(open);
        deepest.add(method);
        if (open.contains(method)) {
            CHECKS.holds("no call comes back to itself: " + deepest, false);
            return deepest;
        }
        List<String> standing = List.copyOf(deepest);
        for (String called : calls.getOrDefault(method, Set.of())) {
            List<String> below = deepestFrom(called, standing);
            if (below.size() > deepest.size()) {
                deepest = below;
            }
        }
        return deepest;
    }

    /** Walks the tree once: notes who calls whom, and holds each part against its rule. */
    private final class Look extends TreePathScanner<Void, Void> {
        @Override
        public Void scan(Tree tree, Void none) {
            if (tree != null) {
                CHECKS.holds("rule 6: no " + tree.getKind() + where(tree), !RULED_OUT.contains(tree.getKind()));
            }
            return super.scan(tree, none);
        }

        @Override
        public Void visitClass(ClassTree tree, Void none) {
            classes++;
            Tree around = getCurrentPath().getParentPath().getLeaf();
            CHECKS.holds("rule 2: no class in a method" + where(tree),
                    around instanceof ClassTree || around instanceof CompilationUnitTree);
            return super.visitClass(tree, none);
        }

        @Override
        public Void visitMethod(MethodTree tree, Void none) {
            Element method = elementOf(getCurrentPath());
            if (method.getModifiers().contains(Modifier.PUBLIC)) {
                face.add(nameOf(method));
            }
            CHECKS.holds("rule 11: seven parameters at most" + where(tree),
                    tree.getParameters().size() <= MOST_PARAMETERS);
            CHECKS.holds("rule 11: short" + where(tree), lastLine(tree) - line(tree) < LONGEST);
            return super.visitMethod(tree, none);
        }

        @Override
        public Void visitVariable(VariableTree tree, Void none) {
            Element variable = elementOf(getCurrentPath());
            if (variable.getModifiers().contains(Modifier.STATIC)) {
                CHECKS.holds("rule 5: final" + where(tree), variable.getModifiers().contains(Modifier.FINAL));
                CHECKS.holds("rule 5: of a type that may be static" + where(tree),
                        STATIC_TYPES.contains(variable.asType().toString()));
                CHECKS.holds("rule 5: an array is written out" + where(tree),
                        variable.asType().toString().endsWith("[]") == (tree.getInitializer() instanceof NewArrayTree));
            }
            return super.visitVariable(tree, none);
        }

        @Override
        public Void visitMethodInvocation(MethodInvocationTree tree, Void none) {
            Element called = elementOf(getCurrentPath());
            if (called.getSimpleName().contentEquals("<init>")) {
                return super.visitMethodInvocation(tree, none);
            }
            if (isOwn(called)) {
                calls.computeIfAbsent(caller(), name -> new TreeSet<>()).add(nameOf(called));
            } else {
                CHECKS.holds("rule 4: " + nameOf(called) + where(tree), LIBRARY.contains(nameOf(called)));
                CHECKS.holds("rule 12: a copy is made with the object alone" + where(tree),
                        !called.getSimpleName().contentEquals("clone") || caller().endsWith("<init>"));
            }
            return super.visitMethodInvocation(tree, none);
        }

        @Override
        public Void visitNewClass(NewClassTree tree, Void none) {
            Element made = elementOf(getCurrentPath());
            CHECKS.holds("rule 4: a class of its own" + where(tree), isOwn(made));
            CHECKS.holds("rule 12: made with the object alone" + where(tree), caller().endsWith("<init>"));
            calls.computeIfAbsent(caller(), name -> new TreeSet<>()).add(nameOf(made));
            return super.visitNewClass(tree, none);
        }

        @Override
        public Void visitNewArray(NewArrayTree tree, Void none) {
            CHECKS.holds("rule 12: made with the object alone" + where(tree), caller().endsWith("<init>"));
            return super.visitNewArray(tree, none);
        }

        @Override
        public Void visitAssignment(AssignmentTree tree, Void none) {
            isPutIntoNoConstant(tree.getVariable());
            return super.visitAssignment(tree, none);
        }

        @Override
        public Void visitCompoundAssignment(CompoundAssignmentTree tree, Void none) {
            isPutIntoNoConstant(tree.getVariable());
            return super.visitCompoundAssignment(tree, none);
        }

        @Override
        public Void visitUnary(UnaryTree tree, Void none) {
            if (COUNTING.contains(tree.getKind())) {
                isPutIntoNoConstant(tree.getExpression());
            }
            return super.visitUnary(tree, none);
        }

        private void isPutIntoNoConstant(ExpressionTree to) {
            ExpressionTree whole = to;
            while (whole instanceof ArrayAccessTree) {
                whole = ((ArrayAccessTree) whole).getExpression();
            }
            Element element = elementOf(new TreePath(getCurrentPath(), whole));
            CHECKS.holds("rule 5: nothing is put into " + to + where(to),
                    element != null && !element.getModifiers().contains(Modifier.STATIC));
        }

        @Override
        public Void visitBinary(BinaryTree tree, Void none) {
            CHECKS.holds("rule 10: texts are not joined by +" + where(tree),
                    tree.getKind() != Tree.Kind.PLUS || NUMBERS.contains(typeOf(getCurrentPath()).toString()));
            return super.visitBinary(tree, none);
        }

        @Override
        public Void visitTypeCast(TypeCastTree tree, Void none) {
            CHECKS.holds("rule 6: a cast among numbers" + where(tree),
                    NUMBERS.contains(typeOf(getCurrentPath()).toString()));
            return super.visitTypeCast(tree, none);
        }

        /** What stands outside of methods, the first value of a field, is done by its class's constructor. */
        private String caller() {
            for (TreePath path = getCurrentPath(); path != null; path = path.getParentPath()) {
                if (path.getLeaf() instanceof MethodTree) {
                    return nameOf(elementOf(path));
                }
                if (path.getLeaf() instanceof ClassTree) {
                    return elementOf(path) + ".<init>";
                }
            }
            return "";
        }
    }

    // ---- names and places

    private Element elementOf(TreePath path) {
        return trees.getElement(path);
    }

    private TypeMirror typeOf(TreePath path) {
        return trees.getTypeMirror(path);
    }

    private static String nameOf(Element method) {
        return method.getEnclosingElement() + "." + method.getSimpleName();
    }

    private static boolean isOwn(Element method) {
        for (Element around = method; around != null; around = around.getEnclosingElement()) {
            if (around.getKind() == ElementKind.CLASS && around.toString().equals("FlaringWords")) {
                return true;
            }
        }
        return false;
    }

    private String where(Tree tree) {
        return " (line " + line(tree) + ")";
    }

    private long line(Tree tree) {
        return unit.getLineMap().getLineNumber(Math.max(0, trees.getSourcePositions().getStartPosition(unit, tree)));
    }

    private long lastLine(Tree tree) {
        return unit.getLineMap().getLineNumber(Math.max(0, trees.getSourcePositions().getEndPosition(unit, tree)));
    }
}
