import com.sun.source.tree.AssignmentTree;
import com.sun.source.tree.ClassTree;
import com.sun.source.tree.CompilationUnitTree;
import com.sun.source.tree.ExpressionTree;
import com.sun.source.tree.IdentifierTree;
import com.sun.source.tree.MethodInvocationTree;
import com.sun.source.tree.MethodTree;
import com.sun.source.tree.NewArrayTree;
import com.sun.source.tree.Tree;
import com.sun.source.tree.VariableTree;
import com.sun.source.util.JavacTask;
import com.sun.source.util.SourcePositions;
import com.sun.source.util.TreeScanner;
import com.sun.source.util.Trees;
import java.io.IOException;
import java.nio.file.Path;
import java.util.EnumSet;
import java.util.HashMap;
import java.util.HashSet;
import java.util.Map;
import java.util.Set;
import javax.lang.model.element.Modifier;
import javax.tools.JavaCompiler;
import javax.tools.StandardJavaFileManager;
import javax.tools.ToolProvider;

/** The rules of LANGUAGE.md that can be seen in the text of the class. */
public final class LanguageTest extends TreeScanner<Void, Void> {
    private static final Path SOURCE = Path.of("src/main/java/PocketConsole.java");
    private static final Set<Tree.Kind> BARRED = EnumSet.of(Tree.Kind.THROW, Tree.Kind.TRY, Tree.Kind.CATCH,
        Tree.Kind.SYNCHRONIZED, Tree.Kind.ASSERT, Tree.Kind.INSTANCE_OF, Tree.Kind.LAMBDA_EXPRESSION,
        Tree.Kind.MEMBER_REFERENCE, Tree.Kind.NEW_CLASS, Tree.Kind.NULL_LITERAL, Tree.Kind.STRING_LITERAL,
        Tree.Kind.FLOAT_LITERAL, Tree.Kind.DOUBLE_LITERAL, Tree.Kind.IMPORT, Tree.Kind.ENHANCED_FOR_LOOP,
        Tree.Kind.MEMBER_SELECT, Tree.Kind.INTERFACE, Tree.Kind.ENUM, Tree.Kind.RECORD, Tree.Kind.ANNOTATION);
    private static final Set<String> TYPES = Set.of("int", "long", "short", "byte", "char", "boolean", "void", "int[]",
        "long[]", "short[]", "byte[]", "char[]", "boolean[]");

    private final CompilationUnitTree unit;
    private final SourcePositions positions;
    private final Map<String, Set<String>> calls = new HashMap<>();
    private final Set<String> arrays = new HashSet<>();
    private final Set<String> publicNames = new HashSet<>();
    private final Set<String> privateNames = new HashSet<>();
    private String method = "";
    private int fields = 0;

    private LanguageTest(CompilationUnitTree unit, SourcePositions positions) {
        this.unit = unit;
        this.positions = positions;
    }

    public static void main(String[] args) throws IOException {
        JavaCompiler compiler = ToolProvider.getSystemJavaCompiler();
        StandardJavaFileManager files = compiler.getStandardFileManager(null, null, null);
        JavacTask task = (JavacTask) compiler.getTask(null, files, null, null, null, files.getJavaFileObjects(SOURCE));
        CompilationUnitTree unit = task.parse().iterator().next();
        LanguageTest test = new LanguageTest(unit, Trees.instance(task).getSourcePositions());
        Checks.due("classes in the file", unit.getTypeDecls().size(), 1);
        Checks.due("a package line", unit.getPackageName() != null, false);
        test.scan(unit, null);
        Checks.due("fields beside constants: " + test.fields, test.fields <= 40, true);
        for (String name : test.calls.keySet()) {
            int depth = test.depth(name, 0);
            Checks.due("calls from " + name + " go " + depth + " deep", depth <= 6, true);
        }
        test.privateNames.retainAll(test.publicNames);
        Checks.due("private methods with public names " + test.privateNames, test.privateNames.size(), 0);
        Checks.end();
    }

    /** How many methods stand in the longest chain of calls from this one on; 99 if there is recursion. */
    private int depth(String name, int above) {
        int most = 0;
        if (above > 50) {
            return 99;
        }
        for (String next : calls.getOrDefault(name, Set.of())) {
            most = Math.max(most, depth(next, above + 1));
        }
        return Math.min(99, 1 + most);
    }

    private long line(Tree tree) {
        return unit.getLineMap().getLineNumber(positions.getStartPosition(unit, tree));
    }

    @Override
    public Void scan(Tree tree, Void none) {
        if (tree != null) {
            Checks.due(tree.getKind() + " in line " + line(tree), BARRED.contains(tree.getKind()), false);
        }
        return super.scan(tree, none);
    }

    @Override
    public Void visitClass(ClassTree tree, Void none) {
        for (Tree member : tree.getMembers()) {
            Checks.due("a nested class", member instanceof ClassTree, false);
            if (member instanceof VariableTree) {
                visitField((VariableTree) member);
            }
        }
        return super.visitClass(tree, none);
    }

    private void visitField(VariableTree field) {
        Set<Modifier> flags = field.getModifiers().getFlags();
        String type = field.getType().toString();
        if (flags.contains(Modifier.STATIC)) {
            Checks.due(field.getName() + " is a constant", flags.contains(Modifier.FINAL), true);
            Checks.due(field.getName() + " is int or long", type.equals("int") || type.equals("long"), true);
        } else {
            fields++;
        }
        if (type.endsWith("[]")) {
            arrays.add(field.getName().toString());
            Checks.due(field.getName() + " is final", flags.contains(Modifier.FINAL), true);
        }
    }

    @Override
    public Void visitVariable(VariableTree tree, Void none) {
        Checks.due(tree.getName() + " has a type of the rules", TYPES.contains(tree.getType().toString()), true);
        return super.visitVariable(tree, none);
    }

    @Override
    public Void visitMethod(MethodTree tree, Void none) {
        method = tree.getName().toString();
        calls.putIfAbsent(method, new HashSet<>());
        if (tree.getModifiers().getFlags().contains(Modifier.PUBLIC)) {
            publicNames.add(method);
        } else {
            privateNames.add(method);
        }
        long from = line(tree);
        long to = unit.getLineMap().getLineNumber(positions.getEndPosition(unit, tree));
        Checks.due(method + " has " + (to - from + 1) + " lines", to - from < 60, true);
        Checks.due(method + " has few parameters", tree.getParameters().size() <= 7, true);
        if (tree.getReturnType() != null) {
            String type = tree.getReturnType().toString();
            Checks.due(method + " answers " + type, TYPES.contains(type) && !type.endsWith("]"), true);
        }
        super.visitMethod(tree, none);
        method = "";
        return null;
    }

    @Override
    public Void visitNewArray(NewArrayTree tree, Void none) {
        Checks.due("an array made in " + method, method.isEmpty(), true);
        Checks.due("an array with dimensions", tree.getDimensions().size(), 1);
        return super.visitNewArray(tree, none);
    }

    @Override
    public Void visitAssignment(AssignmentTree tree, Void none) {
        Checks.due("an array field is assigned in line " + line(tree), arrays.contains(tree.getVariable().toString()), false);
        return super.visitAssignment(tree, none);
    }

    @Override
    public Void visitMethodInvocation(MethodInvocationTree tree, Void none) {
        ExpressionTree called = tree.getMethodSelect();
        Checks.due("a call of its own method in line " + line(tree), called instanceof IdentifierTree, true);
        if (!called.toString().equals("super")) {
            calls.computeIfAbsent(method, name -> new HashSet<>()).add(called.toString());
        }
        for (ExpressionTree argument : tree.getArguments()) {
            new TreeScanner<Void, Void>() {
                @Override
                public Void visitMethodInvocation(MethodInvocationTree inner, Void nothing) {
                    Checks.due("a call inside of arguments in line " + line(inner), true, false);
                    return super.visitMethodInvocation(inner, nothing);
                }
            }.scan(argument, null);
        }
        return super.visitMethodInvocation(tree, none);
    }
}
