import com.sun.source.tree.AssertTree;
import com.sun.source.tree.ClassTree;
import com.sun.source.tree.CompilationUnitTree;
import com.sun.source.tree.ImportTree;
import com.sun.source.tree.LambdaExpressionTree;
import com.sun.source.tree.LiteralTree;
import com.sun.source.tree.MemberReferenceTree;
import com.sun.source.tree.MemberSelectTree;
import com.sun.source.tree.MethodInvocationTree;
import com.sun.source.tree.MethodTree;
import com.sun.source.tree.NewClassTree;
import com.sun.source.tree.PrimitiveTypeTree;
import com.sun.source.tree.SynchronizedTree;
import com.sun.source.tree.ThrowTree;
import com.sun.source.tree.Tree;
import com.sun.source.tree.TryTree;
import com.sun.source.tree.VariableTree;
import com.sun.source.util.JavacTask;
import com.sun.source.util.SourcePositions;
import com.sun.source.util.TreeScanner;
import com.sun.source.util.Trees;
import java.nio.file.Path;
import java.util.List;
import java.util.Set;
import javax.lang.model.element.Modifier;
import javax.lang.model.type.TypeKind;
import javax.tools.JavaCompiler;
import javax.tools.StandardJavaFileManager;
import javax.tools.ToolProvider;

/** Those rules of LANGUAGE.md that the source itself shows; run from the project's folder. */
public final class LanguageTest extends TreeScanner<Void, Void> {
    private static final Path SOURCE = Path.of("src/main/java/SpanKeeper.java");
    private static final Set<String> LIBRARY = Set.of("Arrays.fill", "Arrays.copyOf", "Arrays.copyOfRange",
        "System.arraycopy", "Math.min", "Math.max", "Math.abs");
    private static final Set<String> LIBRARY_CLASSES = Set.of("Arrays", "System", "Math", "Integer", "Long");
    private static final Expect EXPECT = new Expect("LanguageTest");

    private final CompilationUnitTree unit;
    private final SourcePositions positions;
    private int classes = 0;

    private LanguageTest(CompilationUnitTree unit, SourcePositions positions) {
        this.unit = unit;
        this.positions = positions;
    }

    public static void main(String[] args) throws Exception {
        JavaCompiler compiler = ToolProvider.getSystemJavaCompiler();
        try (StandardJavaFileManager files = compiler.getStandardFileManager(null, null, null)) {
            JavacTask task = (JavacTask) compiler.getTask(null, files, null, List.of(), null,
                files.getJavaFileObjects(SOURCE));
            for (CompilationUnitTree unit : task.parse()) {
                LanguageTest test = new LanguageTest(unit, Trees.instance(task).getSourcePositions());
                test.scan(unit, null);
                EXPECT.holds("there is no package line", unit.getPackageName() == null);
                EXPECT.holds("there are 2 to 12 classes: " + test.classes, test.classes >= 2 && test.classes <= 12);
            }
        }
        EXPECT.finish();
    }

    private long line(Tree tree) {
        return unit.getLineMap().getLineNumber(positions.getStartPosition(unit, tree));
    }

    private void no(String what, Tree tree) {
        EXPECT.holds("line " + line(tree) + ": " + what, false);
    }

    @Override
    public Void visitClass(ClassTree tree, Void none) {
        classes++;
        int fields = 0;
        for (Tree member : tree.getMembers()) {
            if (member instanceof VariableTree field) {
                Set<Modifier> flags = field.getModifiers().getFlags();
                fields += flags.contains(Modifier.STATIC) ? 0 : 1;
                EXPECT.holds(field.getName() + " is final, if static",
                    !flags.contains(Modifier.STATIC) || flags.contains(Modifier.FINAL));
            }
            if (member.getKind() == Tree.Kind.BLOCK) {
                no("an initialiser block", member);
            }
        }
        EXPECT.holds(tree.getSimpleName() + " has 20 fields at most: " + fields, fields <= 20);
        return super.visitClass(tree, none);
    }

    @Override
    public Void visitMethod(MethodTree tree, Void none) {
        long lines = 1 - line(tree)
            + unit.getLineMap().getLineNumber(positions.getEndPosition(unit, tree));
        EXPECT.holds(tree.getName() + " has 60 lines at most: " + lines, lines <= 60);
        EXPECT.holds(tree.getName() + " takes 7 at most", tree.getParameters().size() <= 7);
        EXPECT.holds(tree.getName() + " throws nothing", tree.getThrows().isEmpty());
        return super.visitMethod(tree, none);
    }

    @Override
    public Void visitImport(ImportTree tree, Void none) {
        String name = tree.getQualifiedIdentifier().toString();
        EXPECT.holds("import " + name, Set.of("java.util.Arrays", "java.util.ArrayList", "java.util.List")
            .contains(name));
        return super.visitImport(tree, none);
    }

    @Override
    public Void visitMethodInvocation(MethodInvocationTree tree, Void none) {
        if (tree.getMethodSelect() instanceof MemberSelectTree select
            && LIBRARY_CLASSES.contains(select.getExpression().toString())) {
            EXPECT.holds("line " + line(tree) + ": " + select, LIBRARY.contains(select.toString()));
        }
        return super.visitMethodInvocation(tree, none);
    }

    @Override
    public Void visitNewClass(NewClassTree tree, Void none) {
        EXPECT.holds("line " + line(tree) + " makes no anonymous class", tree.getClassBody() == null);
        return super.visitNewClass(tree, none);
    }

    @Override
    public Void visitLiteral(LiteralTree tree, Void none) {
        EXPECT.holds("line " + line(tree) + " holds no text", tree.getKind() != Tree.Kind.STRING_LITERAL);
        return super.visitLiteral(tree, none);
    }

    @Override
    public Void visitPrimitiveType(PrimitiveTypeTree tree, Void none) {
        TypeKind kind = tree.getPrimitiveTypeKind();
        EXPECT.holds("line " + line(tree) + " counts in whole numbers",
            kind != TypeKind.DOUBLE && kind != TypeKind.FLOAT);
        return super.visitPrimitiveType(tree, none);
    }

    @Override
    public Void visitThrow(ThrowTree tree, Void none) {
        no("throw", tree);
        return super.visitThrow(tree, none);
    }

    @Override
    public Void visitTry(TryTree tree, Void none) {
        no("try", tree);
        return super.visitTry(tree, none);
    }

    @Override
    public Void visitAssert(AssertTree tree, Void none) {
        no("assert", tree);
        return super.visitAssert(tree, none);
    }

    @Override
    public Void visitSynchronized(SynchronizedTree tree, Void none) {
        no("synchronized", tree);
        return super.visitSynchronized(tree, none);
    }

    @Override
    public Void visitLambdaExpression(LambdaExpressionTree tree, Void none) {
        no("lambda", tree);
        return super.visitLambdaExpression(tree, none);
    }

    @Override
    public Void visitMemberReference(MemberReferenceTree tree, Void none) {
        no("method reference", tree);
        return super.visitMemberReference(tree, none);
    }
}
