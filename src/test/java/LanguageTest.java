import com.sun.source.tree.ArrayAccessTree;
import com.sun.source.tree.BinaryTree;
import com.sun.source.tree.ClassTree;
import com.sun.source.tree.CompilationUnitTree;
import com.sun.source.tree.CompoundAssignmentTree;
import com.sun.source.tree.ExpressionTree;
import com.sun.source.tree.ImportTree;
import com.sun.source.tree.LambdaExpressionTree;
import com.sun.source.tree.LiteralTree;
import com.sun.source.tree.MemberReferenceTree;
import com.sun.source.tree.MethodInvocationTree;
import com.sun.source.tree.MethodTree;
import com.sun.source.tree.NewArrayTree;
import com.sun.source.tree.NewClassTree;
import com.sun.source.tree.ThrowTree;
import com.sun.source.tree.Tree;
import com.sun.source.tree.TryTree;
import com.sun.source.tree.TypeCastTree;
import com.sun.source.tree.VariableTree;
import com.sun.source.util.JavacTask;
import com.sun.source.util.TreePathScanner;
import com.sun.source.util.Trees;
import java.nio.file.Path;
import java.util.HashMap;
import java.util.List;
import java.util.Map;
import java.util.Set;
import java.util.TreeSet;
import javax.lang.model.element.Element;
import javax.lang.model.element.ElementKind;
import javax.lang.model.element.Modifier;
import javax.tools.JavaCompiler;
import javax.tools.StandardJavaFileManager;
import javax.tools.ToolProvider;

/**
 * The rules of ../shared/LANGUAGE.md that the source shows, as the class keeps them: in part more
 * strictly than the rules ask. FaceTest looks at rule 1.
 */
public final class LanguageTest extends TreePathScanner<Void, Void> {
    private static final String SOURCE = "src/main/java/DominoChains.java";
    private static final Set<String> LIBRARY = Set.of("Math.max", "Math.min", "System.arraycopy", "String.length",
            "String.charAt", "Object.<init>");
    private static final Set<String> EXCEPTIONS = Set.of("IllegalStateException", "IllegalArgumentException",
            "IndexOutOfBoundsException", "NoSuchElementException");
    // Where a row's element is taken by its brackets: each of these looks at the row's length itself.
    private static final Set<String> ROW_USERS = Set.of("DominoChains.at", "DominoChains.put", "State.clearCounts",
            "History.<init>", "History.slotAt", "Solver.<init>", "Parser.readRound");

    private static final int DEEPEST = 8;

    private final Trees trees;
    private final Map<String, Set<String>> calls = new HashMap<>();
    private int classes = 0;
    private String className = "";
    private String methodName = "";

    private LanguageTest(Trees trees) {
        this.trees = trees;
    }

    public static void main(String[] args) throws Exception {
        JavaCompiler compiler = ToolProvider.getSystemJavaCompiler();
        try (StandardJavaFileManager files = compiler.getStandardFileManager(null, null, null)) {
            JavacTask task = (JavacTask) compiler.getTask(null, files, null, List.of("-proc:none"), null,
                    files.getJavaFileObjects(Path.of(SOURCE)));
            CompilationUnitTree unit = task.parse().iterator().next();
            task.analyze();
            LanguageTest test = new LanguageTest(Trees.instance(task));
            test.scan(unit, null);
            test.depths();
            test.rule(11, test.classes + " classes", test.classes <= 12);
        }
        Check.end();
    }

    private void rule(int number, String what, boolean holds) {
        Check.same("rule " + number + ", " + className + "." + methodName + ": " + what, holds, true);
    }

    private String nameOf(Element element) {
        return element.getEnclosingElement().getSimpleName() + "." + element.getSimpleName();
    }

    private boolean isOwn(Element element) {
        Element top = element;
        while (top.getEnclosingElement() != null && top.getEnclosingElement().getKind() != ElementKind.PACKAGE) {
            top = top.getEnclosingElement();
        }
        return top.getSimpleName().contentEquals("DominoChains");
    }

    private void call(Element callee) {
        if (isOwn(callee)) {
            calls.computeIfAbsent(className + "." + methodName, name -> new TreeSet<>()).add(nameOf(callee));
        } else {
            boolean inThrow = getCurrentPath().getParentPath().getLeaf().getKind() == Tree.Kind.THROW;
            rule(4, "calls " + nameOf(callee), inThrow || LIBRARY.contains(nameOf(callee)));
        }
    }

    @Override
    public Void visitImport(ImportTree node, Void nothing) {
        rule(4, "" + node, node.getQualifiedIdentifier().toString().equals("java.util.NoSuchElementException"));
        return super.visitImport(node, nothing);
    }

    @Override
    public Void visitClass(ClassTree node, Void nothing) {
        String outer = className;
        classes++;
        className = node.getSimpleName().toString();
        long fields = node.getMembers().stream().filter(this::isOwnField).count();
        rule(11, fields + " fields", fields <= 20);
        boolean blocks = node.getMembers().stream().anyMatch(member -> member.getKind() == Tree.Kind.BLOCK);
        rule(5, "blocks of initialisers", !blocks);
        super.visitClass(node, nothing);
        className = outer;
        return null;
    }

    private boolean isOwnField(Tree member) {
        return member instanceof VariableTree field && !field.getModifiers().getFlags().contains(Modifier.STATIC);
    }

    @Override
    public Void visitVariable(VariableTree node, Void nothing) {
        if (node.getModifiers().getFlags().contains(Modifier.STATIC)) {
            rule(5, node.getName() + " is a constant", node.getModifiers().getFlags().contains(Modifier.FINAL)
                    && node.getType().toString().equals("int"));
        }
        return super.visitVariable(node, nothing);
    }

    @Override
    public Void visitMethod(MethodTree node, Void nothing) {
        methodName = node.getName().toString();
        rule(11, "parameters", node.getParameters().size() <= 7);
        rule(11, "lines", node.toString().lines().count() <= 60);
        super.visitMethod(node, nothing);
        methodName = "";
        return null;
    }

    @Override
    public Void visitMethodInvocation(MethodInvocationTree node, Void nothing) {
        call(trees.getElement(getCurrentPath()));
        return super.visitMethodInvocation(node, nothing);
    }

    @Override
    public Void visitNewClass(NewClassTree node, Void nothing) {
        call(trees.getElement(getCurrentPath()));
        boolean inThrow = getCurrentPath().getParentPath().getLeaf().getKind() == Tree.Kind.THROW;
        rule(12, "makes " + node, inThrow || isMadeOnce());
        return super.visitNewClass(node, nothing);
    }

    @Override
    public Void visitNewArray(NewArrayTree node, Void nothing) {
        rule(12, "makes " + node, isMadeOnce());
        return super.visitNewArray(node, nothing);
    }

    private boolean isMadeOnce() {
        return methodName.isEmpty() || methodName.equals("<init>");
    }

    @Override
    public Void visitThrow(ThrowTree node, Void nothing) {
        ExpressionTree thrown = node.getExpression();
        rule(6, "throws " + thrown, thrown instanceof NewClassTree made
                && EXCEPTIONS.contains(made.getIdentifier().toString())
                && made.getArguments().stream().allMatch(text -> text.getKind() == Tree.Kind.STRING_LITERAL));
        rule(6, "throws in a constructor", !methodName.equals("<init>"));
        return super.visitThrow(node, nothing);
    }

    @Override
    public Void visitTry(TryTree node, Void nothing) {
        rule(6, "needs no try", false);
        return super.visitTry(node, nothing);
    }

    @Override
    public Void visitLambdaExpression(LambdaExpressionTree node, Void nothing) {
        rule(2, "needs no lambda", false);
        return super.visitLambdaExpression(node, nothing);
    }

    @Override
    public Void visitMemberReference(MemberReferenceTree node, Void nothing) {
        rule(2, "needs no method reference", false);
        return super.visitMemberReference(node, nothing);
    }

    @Override
    public Void visitArrayAccess(ArrayAccessTree node, Void nothing) {
        rule(7, "takes " + node, ROW_USERS.contains(className + "." + methodName));
        return super.visitArrayAccess(node, nothing);
    }

    @Override
    public Void visitTypeCast(TypeCastTree node, Void nothing) {
        rule(7, "casts " + node, Set.of("char", "double").contains(node.getType().toString()));
        return super.visitTypeCast(node, nothing);
    }

    @Override
    public Void visitBinary(BinaryTree node, Void nothing) {
        divides(node.getKind(), Set.of(Tree.Kind.DIVIDE, Tree.Kind.REMAINDER), node.getRightOperand());
        return super.visitBinary(node, nothing);
    }

    @Override
    public Void visitCompoundAssignment(CompoundAssignmentTree node, Void nothing) {
        divides(node.getKind(), Set.of(Tree.Kind.DIVIDE_ASSIGNMENT, Tree.Kind.REMAINDER_ASSIGNMENT),
                node.getExpression());
        return super.visitCompoundAssignment(node, nothing);
    }

    // The mean's division is one of doubles, and is made only if the player has burnt a tile.
    private void divides(Tree.Kind kind, Set<Tree.Kind> divisions, ExpressionTree divisor) {
        if (divisions.contains(kind)) {
            boolean isSafe = methodName.equals("meanTileScore")
                    || divisor instanceof LiteralTree literal && !literal.getValue().equals(0);
            rule(7, "divides by " + divisor, isSafe);
        }
    }

    private void depths() {
        for (String name : calls.keySet()) {
            rule(11, "calls from " + name + " go " + depth(name, 1) + " deep", depth(name, 1) <= DEEPEST);
        }
    }

    /** Counts the first method too, and ends just above the limit where calls go round in a ring. */
    private int depth(String name, int level) {
        int deepest = level;
        for (String callee : level > DEEPEST ? Set.<String>of() : calls.getOrDefault(name, Set.of())) {
            deepest = Math.max(deepest, depth(callee, level + 1));
        }
        return deepest;
    }
}
