import com.sun.source.tree.AssertTree;
import com.sun.source.tree.BinaryTree;
import com.sun.source.tree.ClassTree;
import com.sun.source.tree.CompilationUnitTree;
import com.sun.source.tree.CompoundAssignmentTree;
import com.sun.source.tree.DoWhileLoopTree;
import com.sun.source.tree.ExpressionTree;
import com.sun.source.tree.ImportTree;
import com.sun.source.tree.LambdaExpressionTree;
import com.sun.source.tree.LiteralTree;
import com.sun.source.tree.MemberReferenceTree;
import com.sun.source.tree.MethodInvocationTree;
import com.sun.source.tree.MethodTree;
import com.sun.source.tree.NewArrayTree;
import com.sun.source.tree.NewClassTree;
import com.sun.source.tree.SynchronizedTree;
import com.sun.source.tree.ThrowTree;
import com.sun.source.tree.Tree;
import com.sun.source.tree.TryTree;
import com.sun.source.tree.TypeCastTree;
import com.sun.source.tree.VariableTree;
import com.sun.source.tree.WhileLoopTree;
import com.sun.source.util.JavacTask;
import com.sun.source.util.TreePath;
import com.sun.source.util.TreePathScanner;
import com.sun.source.util.Trees;
import java.io.IOException;
import java.nio.file.Path;
import java.util.HashMap;
import java.util.HashSet;
import java.util.LinkedHashSet;
import java.util.List;
import java.util.Map;
import java.util.Set;
import javax.lang.model.element.Element;
import javax.lang.model.element.ElementKind;
import javax.lang.model.element.Modifier;
import javax.lang.model.type.TypeMirror;
import javax.tools.JavaCompiler;
import javax.tools.StandardJavaFileManager;
import javax.tools.ToolProvider;

/**
 * What can be seen of ../shared/LANGUAGE.md in the tree of the source alone. It is stricter than the rules in places:
 * the class does without try, while, lists and floats, and makes nothing but exceptions outside its constructors.
 */
public final class LanguageTest {
    private static final int MOST_LINES = 60;
    private static final int MOST_PARAMETERS = 7;
    private static final int MOST_FIELDS = 20;
    private static final int MOST_CLASSES = 12;
    private static final int MOST_DEPTH = 8;
    private static final Check CHECK = new Check();
    private static final Set<String> EXCEPTIONS = Set.of("IllegalStateException", "IllegalArgumentException",
        "IndexOutOfBoundsException", "ArithmeticException", "UnsupportedOperationException", "NoSuchElementException",
        "RuntimeException");
    private static final Set<String> LIBRARY = Set.of("String.length", "String.charAt", "String.isEmpty",
        "String.equals", "String.indexOf", "String.substring", "String.toCharArray", "Math.abs", "Math.min", "Math.max",
        "Math.floorMod", "Math.floorDiv");
    private static final Set<String> TYPES = Set.of("int", "long", "char", "boolean", "java.lang.String", "int[]",
        "char[]");
    private static final Map<Element, Set<Element>> CALLS = new HashMap<>();

    public static void main(String[] args) throws IOException {
        JavaCompiler compiler = ToolProvider.getSystemJavaCompiler();
        try (StandardJavaFileManager files = compiler.getStandardFileManager(null, null, null)) {
            JavacTask task = (JavacTask) compiler.getTask(null, files, null, List.of("-proc:none"), null,
                files.getJavaFileObjects(Path.of("src/main/java/CounterpointChecker.java")));
            Iterable<? extends CompilationUnitTree> units = task.parse();
            task.analyze();
            for (CompilationUnitTree unit : units) {
                new Reader(Trees.instance(task), unit).scan(unit, null);
            }
        }
        CHECK.due("calls were found", 1, () -> CALLS.size() > 100 ? 1 : 0);
        for (Element method : CALLS.keySet()) {
            follow(method, new LinkedHashSet<>());
        }
        CHECK.end();
    }

    /** Follows all calls from a method on, with those that stand open then. */
    private static void follow(Element method, Set<Element> open) {
        if (!open.add(method)) {
            CHECK.complain("rule 8: " + method + " calls itself: " + open);
            return;
        }
        if (open.size() > MOST_DEPTH) {
            CHECK.complain("rule 11: too deep: " + open);
        }
        for (Element next : CALLS.getOrDefault(method, Set.of())) {
            follow(next, open);
        }
        open.remove(method);
    }

    private static final class Reader extends TreePathScanner<Void, Void> {
        private final Trees trees;
        private final CompilationUnitTree unit;
        private int classes = 0;

        Reader(Trees trees, CompilationUnitTree unit) {
            this.trees = trees;
            this.unit = unit;
        }

        private void holds(int rule, boolean isRight, String what, Tree where) {
            long start = trees.getSourcePositions().getStartPosition(unit, where);
            long line = unit.getLineMap().getLineNumber(start);
            CHECK.due("rule " + rule + ", line " + line + ": " + what, 1, () -> isRight ? 1 : 0);
        }

        private Element here() {
            return trees.getElement(getCurrentPath());
        }

        private boolean isOwn(Element element) {
            for (Element one = element; one != null; one = one.getEnclosingElement()) {
                if (one.getSimpleName().contentEquals("CounterpointChecker")) {
                    return true;
                }
            }
            return false;
        }

        /** The method or constructor around this place, or null for a field's initialiser. */
        private MethodTree methodAround() {
            for (TreePath path = getCurrentPath(); path != null; path = path.getParentPath()) {
                if (path.getLeaf() instanceof MethodTree method) {
                    return method;
                }
            }
            return null;
        }

        private boolean isInConstruction() {
            MethodTree method = methodAround();
            return method == null || method.getReturnType() == null;
        }

        @Override
        public Void visitImport(ImportTree tree, Void none) {
            holds(4, tree.getQualifiedIdentifier().toString().equals("java.util.NoSuchElementException"),
                tree.toString(), tree);
            return super.visitImport(tree, none);
        }

        @Override
        public Void visitClass(ClassTree tree, Void none) {
            classes++;
            int fields = 0;
            for (Tree member : tree.getMembers()) {
                if (member instanceof VariableTree field) {
                    Set<Modifier> kind = field.getModifiers().getFlags();
                    fields += kind.contains(Modifier.STATIC) ? 0 : 1;
                    holds(5, !kind.contains(Modifier.STATIC) || kind.contains(Modifier.FINAL)
                        && field.getInitializer() != null, "static state " + field.getName(), field);
                }
                holds(5, member.getKind() != Tree.Kind.BLOCK, "a block of a class", member);
            }
            holds(11, fields <= MOST_FIELDS, fields + " fields", tree);
            holds(11, classes <= MOST_CLASSES, classes + " classes", tree);
            return super.visitClass(tree, none);
        }

        @Override
        public Void visitMethod(MethodTree tree, Void none) {
            CALLS.computeIfAbsent(here(), key -> new HashSet<>());
            long start = trees.getSourcePositions().getStartPosition(unit, tree);
            long end = trees.getSourcePositions().getEndPosition(unit, tree);
            if (end >= 0) {
                long lines = unit.getLineMap().getLineNumber(end) - unit.getLineMap().getLineNumber(start) + 1;
                holds(11, lines <= MOST_LINES, tree.getName() + " has " + lines + " lines", tree);
            }
            holds(11, tree.getParameters().size() <= MOST_PARAMETERS, tree.getName() + " has too many parameters", tree);
            return super.visitMethod(tree, none);
        }

        @Override
        public Void visitVariable(VariableTree tree, Void none) {
            TypeMirror type = trees.getTypeMirror(getCurrentPath());
            String name = type.toString();
            holds(3, TYPES.contains(name) || name.startsWith("CounterpointChecker."), "the type " + name, tree);
            return super.visitVariable(tree, none);
        }

        @Override
        public Void visitMethodInvocation(MethodInvocationTree tree, Void none) {
            Element called = here();
            Element around = methodAround() == null ? null : trees.getElement(trees.getPath(unit, methodAround()));
            String name = called.getEnclosingElement().getSimpleName() + "." + called.getSimpleName();
            boolean isSuper = called.getKind() == ElementKind.CONSTRUCTOR;
            if (isOwn(called) && around != null) {
                CALLS.computeIfAbsent(around, key -> new HashSet<>()).add(called);
            }
            holds(4, isOwn(called) || isSuper || LIBRARY.contains(name), "calls " + name, tree);
            holds(12, isSuper || !isInConstruction(), "a constructor calls " + name, tree);
            return super.visitMethodInvocation(tree, none);
        }

        @Override
        public Void visitNewClass(NewClassTree tree, Void none) {
            boolean isThrown = getCurrentPath().getParentPath().getLeaf() instanceof ThrowTree;
            holds(12, isThrown || isInConstruction(), "makes " + tree, tree);
            holds(4, isThrown || isOwn(here()), "makes " + tree, tree);
            return super.visitNewClass(tree, none);
        }

        @Override
        public Void visitNewArray(NewArrayTree tree, Void none) {
            holds(12, isInConstruction(), "makes " + tree, tree);
            return super.visitNewArray(tree, none);
        }

        @Override
        public Void visitThrow(ThrowTree tree, Void none) {
            boolean isPlain = false;
            if (tree.getExpression() instanceof NewClassTree made) {
                List<? extends ExpressionTree> words = made.getArguments();
                isPlain = EXCEPTIONS.contains(made.getIdentifier().toString()) && made.getClassBody() == null
                    && (words.isEmpty() || words.size() == 1 && words.get(0) instanceof LiteralTree);
            }
            holds(6, isPlain, tree.toString(), tree);
            holds(6, !isInConstruction(), "a constructor throws", tree);
            return super.visitThrow(tree, none);
        }

        @Override
        public Void visitBinary(BinaryTree tree, Void none) {
            noJoining(tree, tree.getLeftOperand(), tree.getRightOperand());
            return super.visitBinary(tree, none);
        }

        @Override
        public Void visitCompoundAssignment(CompoundAssignmentTree tree, Void none) {
            noJoining(tree, tree.getVariable(), tree.getExpression());
            return super.visitCompoundAssignment(tree, none);
        }

        /** Neither joins texts by + nor compares them by ==: rules 6 and 10. */
        private void noJoining(Tree tree, ExpressionTree left, ExpressionTree right) {
            for (ExpressionTree side : List.of(left, right)) {
                TypeMirror type = trees.getTypeMirror(new TreePath(getCurrentPath(), side));
                holds(10, type == null || !type.toString().equals("java.lang.String"), tree.toString(), tree);
            }
        }

        @Override
        public Void visitTypeCast(TypeCastTree tree, Void none) {
            holds(6, tree.getType().getKind() == Tree.Kind.PRIMITIVE_TYPE, "a cast " + tree, tree);
            return super.visitTypeCast(tree, none);
        }

        @Override
        public Void visitLambdaExpression(LambdaExpressionTree tree, Void none) {
            holds(2, false, "a lambda", tree);
            return null;
        }

        @Override
        public Void visitMemberReference(MemberReferenceTree tree, Void none) {
            holds(2, false, "a method reference", tree);
            return null;
        }

        @Override
        public Void visitTry(TryTree tree, Void none) {
            holds(6, false, "a try", tree);
            return super.visitTry(tree, none);
        }

        @Override
        public Void visitSynchronized(SynchronizedTree tree, Void none) {
            holds(6, false, "synchronized", tree);
            return super.visitSynchronized(tree, none);
        }

        @Override
        public Void visitAssert(AssertTree tree, Void none) {
            holds(6, false, "an assert", tree);
            return super.visitAssert(tree, none);
        }

        @Override
        public Void visitWhileLoop(WhileLoopTree tree, Void none) {
            holds(9, false, "a while without a counter", tree);
            return super.visitWhileLoop(tree, none);
        }

        @Override
        public Void visitDoWhileLoop(DoWhileLoopTree tree, Void none) {
            holds(9, false, "a do without a counter", tree);
            return super.visitDoWhileLoop(tree, none);
        }
    }
}
