import com.sun.source.tree.AssertTree;
import com.sun.source.tree.BinaryTree;
import com.sun.source.tree.ClassTree;
import com.sun.source.tree.CompilationUnitTree;
import com.sun.source.tree.CompoundAssignmentTree;
import com.sun.source.tree.ExpressionTree;
import com.sun.source.tree.ImportTree;
import com.sun.source.tree.LambdaExpressionTree;
import com.sun.source.tree.MemberReferenceTree;
import com.sun.source.tree.MethodInvocationTree;
import com.sun.source.tree.MethodTree;
import com.sun.source.tree.NewClassTree;
import com.sun.source.tree.SynchronizedTree;
import com.sun.source.tree.ThrowTree;
import com.sun.source.tree.Tree;
import com.sun.source.tree.TryTree;
import com.sun.source.tree.VariableTree;
import com.sun.source.util.JavacTask;
import com.sun.source.util.TreePath;
import com.sun.source.util.TreePathScanner;
import com.sun.source.util.Trees;
import java.lang.reflect.Method;
import java.lang.reflect.Modifier;
import java.nio.file.Path;
import java.util.List;
import java.util.Set;
import java.util.stream.Collectors;
import java.util.stream.Stream;
import javax.lang.model.element.Element;
import javax.lang.model.element.ElementKind;
import javax.lang.model.type.TypeKind;
import javax.lang.model.type.TypeMirror;
import javax.tools.JavaCompiler;
import javax.tools.StandardJavaFileManager;
import javax.tools.ToolProvider;

/** The rules of LANGUAGE.md that can be seen in the syntax of the class. */
final class LanguageTest extends TreePathScanner<Void, Void> {
    private static final Set<String> IMPORTS = Set.of("java.util.Arrays", "java.util.NoSuchElementException");
    private static final Set<String> LIBRARY = Set.of("java.lang.System.arraycopy", "java.util.Arrays.fill",
            "java.lang.Math.min", "java.lang.Math.max", "java.lang.Math.abs",
            "java.lang.String.length", "java.lang.String.charAt");
    private static final Set<String> EXCEPTIONS = Set.of("IllegalStateException", "IllegalArgumentException",
            "IndexOutOfBoundsException", "ArithmeticException", "UnsupportedOperationException",
            "NoSuchElementException", "RuntimeException");
    private static final Set<String> STATIC_TYPES = Set.of("int", "long", "boolean", "char", "String");

    private final Trees trees;
    private final CompilationUnitTree unit;
    private final Set<String> faceNames;
    private int classes = 0;

    private LanguageTest(Trees trees, CompilationUnitTree unit) {
        this.trees = trees;
        this.unit = unit;
        faceNames = Stream.of(ParallelRewriting.class.getDeclaredMethods())
            .filter(method -> Modifier.isPublic(method.getModifiers())).map(Method::getName)
            .collect(Collectors.toSet());
    }

    public static void main(String[] args) throws Exception {
        JavaCompiler compiler = ToolProvider.getSystemJavaCompiler();
        try (StandardJavaFileManager files = compiler.getStandardFileManager(null, null, null)) {
            JavacTask task = (JavacTask) compiler.getTask(null, files, null, null, null,
                    files.getJavaFileObjects(Path.of("src/main/java/ParallelRewriting.java")));
            CompilationUnitTree unit = task.parse().iterator().next();
            task.analyze();
            LanguageTest test = new LanguageTest(Trees.instance(task), unit);
            test.scan(unit, null);
            Checks.yes("rule 11: " + test.classes + " classes", test.classes <= 12);
        }
        Checks.finish();
    }

    private void rule(int number, String what, Tree where, boolean kept) {
        Checks.yes("rule " + number + ", line " + line(start(where)) + ": " + what, kept);
    }

    private long start(Tree tree) {
        return trees.getSourcePositions().getStartPosition(unit, tree);
    }

    private long line(long position) {
        return unit.getLineMap().getLineNumber(position);
    }

    private boolean isFraction(Tree tree) {
        TypeMirror type = trees.getTypeMirror(new TreePath(getCurrentPath(), tree));
        return type.getKind() == TypeKind.DOUBLE || type.getKind() == TypeKind.FLOAT;
    }

    private boolean isText(Tree tree) {
        return trees.getTypeMirror(new TreePath(getCurrentPath(), tree)).toString().equals("java.lang.String");
    }

    @Override
    public Void visitImport(ImportTree tree, Void nothing) {
        rule(4, "import", tree, IMPORTS.contains(tree.getQualifiedIdentifier().toString()));
        return null;
    }

    @Override
    public Void visitClass(ClassTree tree, Void nothing) {
        classes++;
        long fields = tree.getMembers().stream().filter(member -> member instanceof VariableTree field
                && !field.getModifiers().getFlags().contains(javax.lang.model.element.Modifier.STATIC)).count();
        rule(11, fields + " fields", tree, fields <= 20);
        return super.visitClass(tree, nothing);
    }

    @Override
    public Void visitVariable(VariableTree tree, Void nothing) {
        Set<javax.lang.model.element.Modifier> flags = tree.getModifiers().getFlags();
        if (flags.contains(javax.lang.model.element.Modifier.STATIC)) {
            rule(5, "static field", tree, flags.contains(javax.lang.model.element.Modifier.FINAL)
                    && STATIC_TYPES.contains(tree.getType().toString()));
        }
        String type = tree.getType() == null ? "" : tree.getType().toString();
        rule(3, "array of two dimensions", tree, !type.endsWith("[][]") || type.matches("(int|long|double)\\[\\]\\[\\]"));
        return super.visitVariable(tree, nothing);
    }

    @Override
    public Void visitMethod(MethodTree tree, Void nothing) {
        String name = tree.getName().toString();
        boolean visible = tree.getModifiers().getFlags().contains(javax.lang.model.element.Modifier.PUBLIC);
        rule(1, name + " has a public name", tree, visible || !faceNames.contains(name));
        rule(6, name + " of all objects", tree, !Set.of("equals", "hashCode", "toString").contains(name));
        long lines = line(trees.getSourcePositions().getEndPosition(unit, tree)) - line(start(tree)) + 1;
        rule(11, name + " is long", tree, lines <= 60);
        rule(11, name + " has many parameters", tree, tree.getParameters().size() <= 7);
        return super.visitMethod(tree, nothing);
    }

    @Override
    public Void visitMethodInvocation(MethodInvocationTree tree, Void nothing) {
        Element called = trees.getElement(getCurrentPath());
        String owner = called.getEnclosingElement().toString();
        rule(4, "call of " + owner + "." + called.getSimpleName(), tree, owner.startsWith("ParallelRewriting")
                || called.getKind() == ElementKind.CONSTRUCTOR || LIBRARY.contains(owner + "." + called.getSimpleName()));
        return super.visitMethodInvocation(tree, nothing);
    }

    @Override
    public Void visitBinary(BinaryTree tree, Void nothing) {
        boolean fraction = isFraction(tree.getLeftOperand()) || isFraction(tree.getRightOperand());
        rule(3, "% of fractions", tree, tree.getKind() != Tree.Kind.REMAINDER || !fraction);
        rule(10, "+ of texts", tree, tree.getKind() != Tree.Kind.PLUS
                || !isText(tree.getLeftOperand()) && !isText(tree.getRightOperand()));
        rule(6, "== of texts", tree, tree.getKind() != Tree.Kind.EQUAL_TO && tree.getKind() != Tree.Kind.NOT_EQUAL_TO
                || !isText(tree.getLeftOperand()) && !isText(tree.getRightOperand()));
        return super.visitBinary(tree, nothing);
    }

    @Override
    public Void visitCompoundAssignment(CompoundAssignmentTree tree, Void nothing) {
        rule(3, "%= of fractions", tree, tree.getKind() != Tree.Kind.REMAINDER_ASSIGNMENT || !isFraction(tree.getVariable()));
        rule(10, "+= of texts", tree, !isText(tree.getVariable()));
        return super.visitCompoundAssignment(tree, nothing);
    }

    @Override
    public Void visitThrow(ThrowTree tree, Void nothing) {
        boolean kept = tree.getExpression() instanceof NewClassTree made
                && EXCEPTIONS.contains(made.getIdentifier().toString()) && writtenTextOrNone(made.getArguments());
        rule(6, "throw", tree, kept);
        for (TreePath path = getCurrentPath(); path != null; path = path.getParentPath()) {
            rule(6, "throw in a constructor", tree, !(path.getLeaf() instanceof MethodTree method)
                    || !method.getName().contentEquals("<init>"));
        }
        return super.visitThrow(tree, nothing);
    }

    private static boolean writtenTextOrNone(List<? extends ExpressionTree> arguments) {
        return arguments.isEmpty() || arguments.get(0).getKind() == Tree.Kind.STRING_LITERAL;
    }

    @Override
    public Void visitTry(TryTree tree, Void nothing) {
        rule(6, "the class answers nothing by catching", tree, false);
        return super.visitTry(tree, nothing);
    }

    @Override
    public Void visitLambdaExpression(LambdaExpressionTree tree, Void nothing) {
        rule(2, "lambda", tree, false);
        return super.visitLambdaExpression(tree, nothing);
    }

    @Override
    public Void visitMemberReference(MemberReferenceTree tree, Void nothing) {
        rule(2, "method reference", tree, false);
        return super.visitMemberReference(tree, nothing);
    }

    @Override
    public Void visitAssert(AssertTree tree, Void nothing) {
        rule(6, "assert", tree, false);
        return super.visitAssert(tree, nothing);
    }

    @Override
    public Void visitSynchronized(SynchronizedTree tree, Void nothing) {
        rule(6, "synchronized", tree, false);
        return super.visitSynchronized(tree, nothing);
    }
}
