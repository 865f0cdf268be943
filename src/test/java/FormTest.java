import com.sun.source.tree.AnnotationTree;
import com.sun.source.tree.AssertTree;
import com.sun.source.tree.BinaryTree;
import com.sun.source.tree.BlockTree;
import com.sun.source.tree.ClassTree;
import com.sun.source.tree.CompilationUnitTree;
import com.sun.source.tree.DoWhileLoopTree;
import com.sun.source.tree.ExpressionTree;
import com.sun.source.tree.ForLoopTree;
import com.sun.source.tree.IdentifierTree;
import com.sun.source.tree.InstanceOfTree;
import com.sun.source.tree.LambdaExpressionTree;
import com.sun.source.tree.LiteralTree;
import com.sun.source.tree.MemberReferenceTree;
import com.sun.source.tree.MemberSelectTree;
import com.sun.source.tree.MethodInvocationTree;
import com.sun.source.tree.MethodTree;
import com.sun.source.tree.NewArrayTree;
import com.sun.source.tree.NewClassTree;
import com.sun.source.tree.SynchronizedTree;
import com.sun.source.tree.ThrowTree;
import com.sun.source.tree.Tree;
import com.sun.source.tree.TryTree;
import com.sun.source.tree.TypeCastTree;
import com.sun.source.tree.VariableTree;
import com.sun.source.tree.WhileLoopTree;
import com.sun.source.util.JavacTask;
import com.sun.source.util.TreeScanner;
import com.sun.source.util.Trees;
import java.io.IOException;
import java.nio.file.Path;
import java.util.List;
import java.util.Map;
import java.util.Set;
import java.util.TreeMap;
import java.util.TreeSet;
import javax.lang.model.element.Modifier;
import javax.tools.JavaCompiler;
import javax.tools.StandardJavaFileManager;
import javax.tools.ToolProvider;

/** The rules of ../shared/LANGUAGE.md that can be seen in the source; FaceTest has the public members of rule 1. */
public final class FormTest extends TreeScanner<Void, Void> {
    private static final Path PROGRAM = Path.of("src/main/java/CoroutineScript.java");
    private static final Set<String> NUMBERS = Set.of("int", "long", "short", "byte", "char", "boolean");
    private static final int PARAMETERS_MOST = 7;
    private static final int LINES_MOST = 60;
    private static final int FIELDS_MOST = 40;
    private static final int DEEP_MOST = 6;

    private final Due due = new Due();
    private final CompilationUnitTree unit;
    private final Trees trees;
    private final Set<String> constants = new TreeSet<>();
    private final Set<String> privateMethods = new TreeSet<>();
    private final Set<String> publicMethods = new TreeSet<>();
    private final Map<String, Set<String>> calls = new TreeMap<>();
    private int fields = 0;
    private String method = "";

    private FormTest(CompilationUnitTree unit, Trees trees) {
        this.unit = unit;
        this.trees = trees;
    }

    public static void main(String[] args) throws IOException {
        JavaCompiler compiler = ToolProvider.getSystemJavaCompiler();
        try (StandardJavaFileManager files = compiler.getStandardFileManager(null, null, null)) {
            JavacTask task = (JavacTask) compiler.getTask(null, files, null, null, null, files.getJavaFileObjects(PROGRAM));
            new FormTest(task.parse().iterator().next(), Trees.instance(task)).look();
        }
    }

    private void look() {
        holds("rule 1: no package", unit.getPackageName() == null, unit);
        holds("rule 1: one class", unit.getTypeDecls().size() == 1, unit);
        holds("rule 3: nothing is imported", unit.getImports().isEmpty(), unit);
        ClassTree program = (ClassTree) unit.getTypeDecls().get(0);
        for (Tree member : program.getMembers()) {
            member(member);
        }
        // The members and not the class: so that a class that is visited is one inside of it.
        scan(program.getMembers(), null);
        for (String name : privateMethods) {
            holds("rule 1: " + name + " is not private and public", !publicMethods.contains(name), program);
        }
        for (String name : publicMethods) {
            holds("rules 8 and 10: no recursion, calls at most six deep, from " + name, deep(name, 1), program);
        }
        holds("rule 10: at most some forty fields, not " + fields, fields <= FIELDS_MOST, program);
        due.end();
    }

    private void holds(String rule, boolean kept, Tree where) {
        long line = unit.getLineMap().getLineNumber(trees.getSourcePositions().getStartPosition(unit, where));
        due.is("line " + line + ", " + rule + ": that", kept, true);
    }

    /** No chain of calls from here is longer than six: one that comes back to itself would be. */
    private boolean deep(String name, int depth) {
        boolean kept = depth <= DEEP_MOST;
        for (String next : calls.getOrDefault(name, Set.of())) {
            kept = kept && deep(next, depth + 1);
        }
        return kept;
    }

    private void member(Tree member) {
        if (member instanceof VariableTree field) {
            field(field);
        } else {
            holds("rules 1 and 5: fields and methods alone", member instanceof MethodTree, member);
        }
    }

    private void field(VariableTree field) {
        Set<Modifier> modifiers = field.getModifiers().getFlags();
        String type = field.getType().toString();
        boolean isStatic = modifiers.contains(Modifier.STATIC);
        if (isStatic) {
            constants.add(field.getName().toString());
            holds("rule 5: a constant of int or long", modifiers.contains(Modifier.FINAL) && Set.of("int", "long").contains(type),
                    field);
            holds("rule 5: with a value", field.getInitializer() != null, field);
        } else {
            fields++;
            holds("rule 1: a private field", modifiers.contains(Modifier.PRIVATE), field);
        }
        if (type.endsWith("[]")) {
            holds("rule 4: an array that no method changes for another", modifiers.contains(Modifier.FINAL), field);
            holds("rule 4: made in the field's initialiser", field.getInitializer() instanceof NewArrayTree, field);
            scanLength((NewArrayTree) field.getInitializer());
        }
    }

    private void scanLength(NewArrayTree made) {
        boolean given = made.getDimensions().size() == 1 && made.getInitializers() == null;
        holds("rule 4: an array with one length", given, made);
        ExpressionTree length = made.getDimensions().get(0);
        boolean constant = length instanceof LiteralTree || constants.contains(length.toString());
        holds("rule 4: a length that is a literal or a constant", constant, made);
    }

    @Override
    public Void visitMethod(MethodTree tree, Void unused) {
        method = tree.getName().toString();
        Set<String> names = tree.getModifiers().getFlags().contains(Modifier.PRIVATE) ? privateMethods : publicMethods;
        names.add(method);
        calls.put(method, new TreeSet<>());
        if (tree.getReturnType() != null && !tree.getReturnType().toString().equals("void")) {
            holds("rule 2: the type answered", NUMBERS.contains(tree.getReturnType().toString()), tree);
        }
        holds("rule 10: at most seven parameters", tree.getParameters().size() <= PARAMETERS_MOST, tree);
        holds("rule 6: nothing thrown", tree.getThrows().isEmpty(), tree);
        long start = trees.getSourcePositions().getStartPosition(unit, tree);
        long end = trees.getSourcePositions().getEndPosition(unit, tree);
        long lines = unit.getLineMap().getLineNumber(end) - unit.getLineMap().getLineNumber(start) + 1;
        holds("rule 10: a short method, not one of " + lines + " lines", lines <= LINES_MOST, tree);
        super.visitMethod(tree, null);
        method = "";
        return null;
    }

    @Override
    public Void visitMethodInvocation(MethodInvocationTree tree, Void unused) {
        boolean own = tree.getMethodSelect() instanceof IdentifierTree;
        holds("rule 3: a method of the class", own, tree);
        calls.getOrDefault(method, new TreeSet<>()).add(tree.getMethodSelect().toString());
        for (ExpressionTree argument : tree.getArguments()) {
            boolean[] calling = {false};
            new TreeScanner<Void, Void>() {
                @Override
                public Void visitMethodInvocation(MethodInvocationTree inner, Void none) {
                    calling[0] = true;
                    return null;
                }
            }.scan(argument, null);
            holds("rule 10: no call inside the arguments of another", !calling[0], tree);
        }
        return super.visitMethodInvocation(tree, null);
    }

    @Override
    public Void visitVariable(VariableTree tree, Void unused) {
        // A variable declared with var has no type in the tree.
        String type = String.valueOf(tree.getType());
        String element = type.endsWith("[]") ? type.substring(0, type.length() - 2) : type;
        holds("rule 2: the type " + type, NUMBERS.contains(element), tree);
        return super.visitVariable(tree, null);
    }

    @Override
    public Void visitNewArray(NewArrayTree tree, Void unused) {
        holds("rule 4: a method makes no array", method.isEmpty(), tree);
        return super.visitNewArray(tree, null);
    }

    @Override
    public Void visitMemberSelect(MemberSelectTree tree, Void unused) {
        boolean own = tree.getExpression().toString().equals("this");
        boolean length = tree.getIdentifier().contentEquals("length");
        holds("rule 3: a field of this object, or a length", own || length, tree);
        return super.visitMemberSelect(tree, null);
    }

    @Override
    public Void visitLiteral(LiteralTree tree, Void unused) {
        List<Tree.Kind> allowed = List.of(Tree.Kind.INT_LITERAL, Tree.Kind.LONG_LITERAL, Tree.Kind.CHAR_LITERAL,
                Tree.Kind.BOOLEAN_LITERAL);
        holds("rules 2 and 4: a whole number, a character or a truth", allowed.contains(tree.getKind()), tree);
        return super.visitLiteral(tree, null);
    }

    @Override
    public Void visitBinary(BinaryTree tree, Void unused) {
        Tree.Kind kind = tree.getKind();
        if (kind == Tree.Kind.DIVIDE || kind == Tree.Kind.REMAINDER) {
            holds("rule 7: a divisor that can't be 0", tree.getRightOperand() instanceof LiteralTree, tree);
        }
        return super.visitBinary(tree, null);
    }

    @Override
    public Void visitTypeCast(TypeCastTree tree, Void unused) {
        holds("rule 6: a cast between numbers", NUMBERS.contains(tree.getType().toString()), tree);
        return super.visitTypeCast(tree, null);
    }

    @Override
    public Void visitBlock(BlockTree tree, Void unused) {
        holds("rule 5: no static initialiser", !tree.isStatic(), tree);
        return super.visitBlock(tree, null);
    }

    private void loop(ExpressionTree condition, Tree loop) {
        boolean bounded = condition != null && condition.toString().matches(".*[<>].*");
        holds("rule 8: a loop with a counter against a bound", bounded, loop);
    }

    @Override
    public Void visitForLoop(ForLoopTree tree, Void unused) {
        loop(tree.getCondition(), tree);
        return super.visitForLoop(tree, null);
    }

    @Override
    public Void visitWhileLoop(WhileLoopTree tree, Void unused) {
        loop(tree.getCondition(), tree);
        return super.visitWhileLoop(tree, null);
    }

    @Override
    public Void visitDoWhileLoop(DoWhileLoopTree tree, Void unused) {
        loop(tree.getCondition(), tree);
        return super.visitDoWhileLoop(tree, null);
    }

    private Void not(String what, Tree tree) {
        holds("no " + what, false, tree);
        return null;
    }

    @Override
    public Void visitClass(ClassTree tree, Void unused) {
        return not("class inside the class", tree);
    }

    @Override
    public Void visitNewClass(NewClassTree tree, Void unused) {
        return not("object", tree);
    }

    @Override
    public Void visitThrow(ThrowTree tree, Void unused) {
        return not("throw", tree);
    }

    @Override
    public Void visitTry(TryTree tree, Void unused) {
        return not("try", tree);
    }

    @Override
    public Void visitSynchronized(SynchronizedTree tree, Void unused) {
        return not("synchronized", tree);
    }

    @Override
    public Void visitAssert(AssertTree tree, Void unused) {
        return not("assert", tree);
    }

    @Override
    public Void visitInstanceOf(InstanceOfTree tree, Void unused) {
        return not("instanceof", tree);
    }

    @Override
    public Void visitLambdaExpression(LambdaExpressionTree tree, Void unused) {
        return not("lambda", tree);
    }

    @Override
    public Void visitMemberReference(MemberReferenceTree tree, Void unused) {
        return not("method reference", tree);
    }

    @Override
    public Void visitAnnotation(AnnotationTree tree, Void unused) {
        return not("annotation", tree);
    }
}
