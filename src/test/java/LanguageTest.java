import com.sun.source.tree.ArrayAccessTree;
import com.sun.source.tree.AssignmentTree;
import com.sun.source.tree.BlockTree;
import com.sun.source.tree.ClassTree;
import com.sun.source.tree.CompilationUnitTree;
import com.sun.source.tree.CompoundAssignmentTree;
import com.sun.source.tree.ForLoopTree;
import com.sun.source.tree.MemberSelectTree;
import com.sun.source.tree.MethodInvocationTree;
import com.sun.source.tree.MethodTree;
import com.sun.source.tree.ModifiersTree;
import com.sun.source.tree.NewArrayTree;
import com.sun.source.tree.NewClassTree;
import com.sun.source.tree.Tree;
import com.sun.source.tree.Tree.Kind;
import com.sun.source.tree.VariableTree;
import com.sun.source.util.JavacTask;
import com.sun.source.util.SourcePositions;
import com.sun.source.util.TreePathScanner;
import com.sun.source.util.Trees;
import java.io.IOException;
import java.nio.file.Path;
import java.util.EnumSet;
import java.util.List;
import java.util.Locale;
import java.util.Map;
import java.util.Set;
import java.util.TreeMap;
import java.util.TreeSet;
import javax.lang.model.element.Modifier;
import javax.tools.JavaCompiler;
import javax.tools.StandardJavaFileManager;
import javax.tools.ToolProvider;

/**
 * The rules of LANGUAGE.md, as far as the shape of the source shows them. It knows only the part of the
 * language that the program uses: another part is looked up in LANGUAGE.md before it is let in here.
 */
public final class LanguageTest extends TreePathScanner<Void, Void> {
    private static final Checks CHECKS = new Checks();
    private static final Path SOURCE = Path.of("src/main/java/SectorSeal.java");

    private static final Set<Kind> KINDS = EnumSet.of(
        Kind.COMPILATION_UNIT, Kind.CLASS, Kind.MODIFIERS, Kind.METHOD, Kind.VARIABLE, Kind.BLOCK,
        Kind.PRIMITIVE_TYPE, Kind.ARRAY_TYPE, Kind.IDENTIFIER, Kind.MEMBER_SELECT, Kind.METHOD_INVOCATION,
        Kind.NEW_ARRAY, Kind.NEW_CLASS, Kind.ARRAY_ACCESS, Kind.ASSIGNMENT, Kind.EXPRESSION_STATEMENT,
        Kind.IF, Kind.FOR_LOOP, Kind.RETURN, Kind.THROW, Kind.CONDITIONAL_EXPRESSION, Kind.PARENTHESIZED,
        Kind.TYPE_CAST, Kind.INT_LITERAL, Kind.LONG_LITERAL, Kind.STRING_LITERAL,
        Kind.PLUS, Kind.MINUS, Kind.MULTIPLY, Kind.REMAINDER, Kind.LEFT_SHIFT, Kind.UNSIGNED_RIGHT_SHIFT,
        Kind.AND, Kind.OR, Kind.XOR, Kind.XOR_ASSIGNMENT, Kind.PLUS_ASSIGNMENT,
        Kind.POSTFIX_INCREMENT, Kind.POSTFIX_DECREMENT, Kind.CONDITIONAL_OR, Kind.EQUAL_TO,
        Kind.LESS_THAN, Kind.LESS_THAN_EQUAL, Kind.GREATER_THAN, Kind.GREATER_THAN_EQUAL);
    private static final Set<Kind> COMPARISONS = EnumSet.of(
        Kind.LESS_THAN, Kind.LESS_THAN_EQUAL, Kind.GREATER_THAN, Kind.GREATER_THAN_EQUAL);
    private static final Set<String> TYPES = Set.of("int", "long", "boolean", "int[]", "long[]", "Aes");
    private static final Set<String> EXCEPTIONS = Set.of("IndexOutOfBoundsException", "IllegalArgumentException");

    private final CompilationUnitTree unit;
    private final SourcePositions positions;
    private final Map<String, Set<String>> callsOf = new TreeMap<>();
    private final Set<String> publicMethods = new TreeSet<>();
    private final Set<String> otherMethods = new TreeSet<>();
    private String method = "";

    private LanguageTest(CompilationUnitTree unit, SourcePositions positions) {
        this.unit = unit;
        this.positions = positions;
    }

    public static void main(String[] args) throws IOException {
        JavaCompiler compiler = ToolProvider.getSystemJavaCompiler();
        try (StandardJavaFileManager files = compiler.getStandardFileManager(null, null, null)) {
            JavacTask task = (JavacTask) compiler.getTask(null, files, null, List.of("-proc:none"), null,
                files.getJavaFileObjects(SOURCE));
            for (CompilationUnitTree unit : task.parse()) {
                LanguageTest test = new LanguageTest(unit, Trees.instance(task).getSourcePositions());
                test.scan(unit, null);
                test.lookAtTheCalls();
            }
        }
        CHECKS.end();
    }

    @Override
    public Void scan(Tree tree, Void unused) {
        if (tree != null) {
            due(tree, "code of a kind that is let in, not " + tree.getKind(), KINDS.contains(tree.getKind()));
        }
        return super.scan(tree, unused);
    }

    @Override
    public Void visitClass(ClassTree tree, Void unused) {
        boolean outer = parent() == unit;
        ModifiersTree modifiers = tree.getModifiers();
        due(tree, "rule 1: the outer class is public, no other", has(modifiers, Modifier.PUBLIC) == outer);
        due(tree, "rule 1: a class inside is static", has(modifiers, Modifier.STATIC) != outer);
        due(tree, "rule 1: a class inside is not protected", !has(modifiers, Modifier.PROTECTED));
        long fields = tree.getMembers().stream().filter(LanguageTest::isObjectsField).count();
        due(tree, "rule 11: at most twenty fields", fields <= 20);
        return super.visitClass(tree, unused);
    }

    @Override
    public Void visitBlock(BlockTree tree, Void unused) {
        due(tree, "rule 5: no initialiser block", !(parent() instanceof ClassTree));
        return super.visitBlock(tree, unused);
    }

    @Override
    public Void visitVariable(VariableTree tree, Void unused) {
        due(tree, "rule 3: a type that is let in, not " + tree.getType(), TYPES.contains(tree.getType().toString()));
        if (has(tree.getModifiers(), Modifier.STATIC)) {
            due(tree, "rule 5: a static field is final", has(tree.getModifiers(), Modifier.FINAL));
            due(tree, "rule 5: a static field holds no object", !tree.getType().toString().equals("Aes"));
            due(tree, "rule 5: a static array is written out", !(tree.getInitializer() instanceof NewArrayTree array)
                || array.getInitializers() != null);
            due(tree, "a static field's name is in capitals", isCapitals(tree.getName().toString()));
        } else {
            due(tree, "only a static field's name is in capitals", !isCapitals(tree.getName().toString()));
        }
        return super.visitVariable(tree, unused);
    }

    @Override
    public Void visitMethod(MethodTree tree, Void unused) {
        String name = tree.getName().toString();
        (has(tree.getModifiers(), Modifier.PUBLIC) ? publicMethods : otherMethods).add(name);
        due(tree, "rule 6: no synchronized", !has(tree.getModifiers(), Modifier.SYNCHRONIZED));
        due(tree, "rule 11: at most seven parameters", tree.getParameters().size() <= 7);
        due(tree, "rule 11: at most sixty lines", lines(tree) <= 60);
        due(tree, "two methods of one name would be taken for one here", !callsOf.containsKey(name));
        callsOf.put(name, new TreeSet<>());
        method = name;
        super.visitMethod(tree, unused);
        method = "";
        return null;
    }

    @Override
    public Void visitMethodInvocation(MethodInvocationTree tree, Void unused) {
        Tree select = tree.getMethodSelect();
        String name = select instanceof MemberSelectTree member ? member.getIdentifier().toString() : select.toString();
        due(tree, "a call stands in a method", !method.isEmpty());
        callsOf.getOrDefault(method, new TreeSet<>()).add(name);
        return super.visitMethodInvocation(tree, unused);
    }

    @Override
    public Void visitForLoop(ForLoopTree tree, Void unused) {
        boolean bounded = tree.getCondition() != null && COMPARISONS.contains(tree.getCondition().getKind())
            && tree.getInitializer().size() == 1 && tree.getUpdate().size() == 1;
        due(tree, "rule 9: a counter against a bound", bounded);
        return super.visitForLoop(tree, unused);
    }

    @Override
    public Void visitNewClass(NewClassTree tree, Void unused) {
        String type = tree.getIdentifier().toString();
        if (parent().getKind() == Kind.THROW) {
            due(tree, "rule 6: an exception of the document", EXCEPTIONS.contains(type));
            due(tree, "rule 6: with a written text", tree.getArguments().size() == 1
                && tree.getArguments().get(0).getKind() == Kind.STRING_LITERAL);
            due(tree, "rule 6: no throw in a constructor", !method.equals("<init>"));
        } else {
            due(tree, "only an object of the file's own is made", type.equals("Aes"));
            due(tree, "rule 12: no call makes an object", method.isEmpty());
        }
        return super.visitNewClass(tree, unused);
    }

    @Override
    public Void visitNewArray(NewArrayTree tree, Void unused) {
        due(tree, "rule 12: no call makes an array", method.isEmpty());
        return super.visitNewArray(tree, unused);
    }

    @Override
    public Void visitAssignment(AssignmentTree tree, Void unused) {
        due(tree, "rule 5: a static array is never changed", !isConstant(tree.getVariable()));
        return super.visitAssignment(tree, unused);
    }

    @Override
    public Void visitCompoundAssignment(CompoundAssignmentTree tree, Void unused) {
        due(tree, "rule 5: a static array is never changed", !isConstant(tree.getVariable()));
        return super.visitCompoundAssignment(tree, unused);
    }

    private void lookAtTheCalls() {
        Set<String> shared = new TreeSet<>(publicMethods);
        shared.retainAll(otherMethods);
        CHECKS.due("rule 1: names of public methods that others bear", shared, Set.of());
        for (Map.Entry<String, Set<String>> entry : callsOf.entrySet()) {
            for (String called : entry.getValue()) {
                CHECKS.due("rule 4: " + entry.getKey() + " calls a method of the file: " + called,
                    callsOf.containsKey(called), true);
            }
            CHECKS.due("rule 11: calls below " + entry.getKey() + " go at most eight deep",
                depth(entry.getKey(), 0) <= 8, true);
        }
    }

    // A method that calls itself, straight or not, is found too: it goes deeper than any bound.
    private int depth(String name, int above) {
        int deepest = above + 1;
        if (above <= 8) {
            for (String called : callsOf.getOrDefault(name, Set.of())) {
                deepest = Math.max(deepest, depth(called, above + 1));
            }
        }
        return deepest;
    }

    private void due(Tree tree, String rule, boolean holds) {
        CHECKS.due("line " + line(positions.getStartPosition(unit, tree)) + ": " + rule, holds, true);
    }

    private Tree parent() {
        return getCurrentPath().getParentPath().getLeaf();
    }

    private long lines(Tree tree) {
        return line(positions.getEndPosition(unit, tree)) - line(positions.getStartPosition(unit, tree)) + 1;
    }

    private long line(long position) {
        return position < 0 ? 0 : unit.getLineMap().getLineNumber(position);
    }

    private static boolean has(ModifiersTree modifiers, Modifier modifier) {
        return modifiers.getFlags().contains(modifier);
    }

    private static boolean isObjectsField(Tree member) {
        return member instanceof VariableTree field && !has(field.getModifiers(), Modifier.STATIC);
    }

    private static boolean isConstant(Tree variable) {
        Tree array = variable instanceof ArrayAccessTree access ? access.getExpression() : variable;
        String name = array instanceof MemberSelectTree member ? member.getIdentifier().toString() : array.toString();
        return isCapitals(name);
    }

    private static boolean isCapitals(String name) {
        return name.equals(name.toUpperCase(Locale.ROOT));
    }
}
