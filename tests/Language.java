import com.sun.source.tree.BinaryTree;
import com.sun.source.tree.BlockTree;
import com.sun.source.tree.ClassTree;
import com.sun.source.tree.CompilationUnitTree;
import com.sun.source.tree.CompoundAssignmentTree;
import com.sun.source.tree.ExpressionTree;
import com.sun.source.tree.ForLoopTree;
import com.sun.source.tree.MethodInvocationTree;
import com.sun.source.tree.MethodTree;
import com.sun.source.tree.NewArrayTree;
import com.sun.source.tree.NewClassTree;
import com.sun.source.tree.ThrowTree;
import com.sun.source.tree.Tree;
import com.sun.source.tree.Tree.Kind;
import com.sun.source.tree.TypeCastTree;
import com.sun.source.tree.VariableTree;
import com.sun.source.util.JavacTask;
import com.sun.source.util.TreePath;
import com.sun.source.util.TreePathScanner;
import com.sun.source.util.Trees;
import java.io.IOException;
import java.nio.file.Files;
import java.nio.file.Path;
import java.util.ArrayDeque;
import java.util.Deque;
import java.util.HashMap;
import java.util.HashSet;
import java.util.List;
import java.util.Map;
import java.util.Set;
import java.util.TreeMap;
import java.util.TreeSet;
import javax.lang.model.element.Element;
import javax.lang.model.element.ElementKind;
import javax.lang.model.element.Modifier;
import javax.lang.model.element.VariableElement;
import javax.lang.model.type.TypeMirror;
import javax.tools.JavaCompiler;
import javax.tools.StandardJavaFileManager;
import javax.tools.ToolProvider;

/**
 * LANGUAGE.md, as far as the source itself shows it, read by the compiler's own tree. Where the program makes do with
 * less than a rule leaves (no try, no list, no object made by a call), the less is what is asked for here.
 */
public final class Language extends TreePathScanner<Void, Void> {
    private static final int MOST_PARAMETERS = 7;
    private static final int MOST_METHOD_LINES = 60;
    private static final int MOST_CLASSES = 12;
    private static final int MOST_FIELDS = 20;
    private static final int MOST_DEPTH = 8;
    private static final Set<Kind> FORBIDDEN = Set.of(Kind.IMPORT, Kind.PACKAGE, Kind.LAMBDA_EXPRESSION,
            Kind.MEMBER_REFERENCE, Kind.TRY, Kind.ASSERT, Kind.SYNCHRONIZED, Kind.WHILE_LOOP, Kind.DO_WHILE_LOOP,
            Kind.INSTANCE_OF, Kind.FLOAT_LITERAL, Kind.DOUBLE_LITERAL);
    private static final Set<String> LIBRARY = Set.of("java.lang.Math.min", "java.lang.Integer.bitCount");
    private static final Set<String> THROWN = Set.of("IllegalArgumentException", "IllegalStateException",
            "IndexOutOfBoundsException");
    private static final Set<Kind> DIVISIONS = Set.of(Kind.DIVIDE, Kind.REMAINDER);
    private static final Set<Kind> BOUNDS = Set.of(Kind.LESS_THAN, Kind.LESS_THAN_EQUAL, Kind.GREATER_THAN,
            Kind.GREATER_THAN_EQUAL);

    private final CompilationUnitTree unit;
    private final Trees trees;
    private final Set<String> publicNames = new TreeSet<>();
    /** By method: those that it calls. */
    private final Map<Element, Set<Element>> calls = new HashMap<>();
    private int classes;

    private Language(CompilationUnitTree unit, Trees trees) {
        this.unit = unit;
        this.trees = trees;
    }

    /** The file may be named, to look at another one. */
    public static void main(String[] args) throws IOException {
        Path file = Path.of(args.length > 0 ? args[0] : "src/main/java/PatchbayScript.java");
        for (String line : Files.readAllLines(file)) {
            Due.is("whether all signs are 1 to 127 in: " + line, line.chars().allMatch(sign -> sign < 128), true);
        }
        JavaCompiler compiler = ToolProvider.getSystemJavaCompiler();
        try (StandardJavaFileManager files = compiler.getStandardFileManager(null, null, null)) {
            JavacTask task = (JavacTask) compiler.getTask(null, files, null, List.of("-proc:none"), null,
                    files.getJavaFileObjects(file));
            for (CompilationUnitTree unit : task.parse()) {
                task.analyze();
                new Language(unit, Trees.instance(task)).look();
            }
        }
        Due.end();
    }

    private void look() {
        Element face = trees.getElement(new TreePath(new TreePath(unit), unit.getTypeDecls().get(0)));
        for (Element member : face.getEnclosedElements()) {
            if (member.getModifiers().contains(Modifier.PUBLIC)) {
                publicNames.add(member.getSimpleName().toString());
            }
        }
        publicNames.remove("<init>");
        Due.is("how many classes stand in the file by themselves", unit.getTypeDecls().size(), 1);
        scan(unit, null);
        Due.is("whether there are some twelve classes", classes <= MOST_CLASSES, true);
        depths();
    }

    private String where(Tree tree) {
        long start = trees.getSourcePositions().getStartPosition(unit, tree);
        return "line " + unit.getLineMap().getLineNumber(start) + ": ";
    }

    private void is(Tree tree, String what, boolean got) {
        if (!got) {
            Due.is(where(tree) + "whether " + what, false, true);
        }
    }

    private boolean isText(Tree tree) {
        TypeMirror type = trees.getTypeMirror(new TreePath(getCurrentPath(), tree));
        return type != null && type.toString().equals("java.lang.String");
    }

    private Element method() {
        TreePath path = getCurrentPath();
        while (path != null && path.getLeaf().getKind() != Kind.METHOD) {
            path = path.getParentPath();
        }
        return path == null ? null : trees.getElement(path);
    }

    private boolean isInConstructor() {
        Element method = method();
        return method != null && method.getKind() == ElementKind.CONSTRUCTOR;
    }

    @Override
    public Void scan(Tree tree, Void none) {
        if (tree != null) {
            is(tree, "there is no " + tree.getKind(), !FORBIDDEN.contains(tree.getKind()));
        }
        return super.scan(tree, none);
    }

    @Override
    public Void visitClass(ClassTree tree, Void none) {
        classes++;
        int fields = 0;
        for (Tree member : tree.getMembers()) {
            is(member, "there is no initialiser block", !(member instanceof BlockTree));
            if (member instanceof VariableTree field) {
                Set<Modifier> modifiers = field.getModifiers().getFlags();
                boolean isStatic = modifiers.contains(Modifier.STATIC);
                fields += isStatic ? 0 : 1;
                is(field, "a static field is final", !isStatic || modifiers.contains(Modifier.FINAL));
            }
        }
        is(tree, "a class has some twenty fields", fields <= MOST_FIELDS);
        return super.visitClass(tree, none);
    }

    @Override
    public Void visitMethod(MethodTree tree, Void none) {
        Element method = trees.getElement(getCurrentPath());
        calls.putIfAbsent(method, new HashSet<>());
        long start = unit.getLineMap().getLineNumber(trees.getSourcePositions().getStartPosition(unit, tree));
        long end = unit.getLineMap().getLineNumber(trees.getSourcePositions().getEndPosition(unit, tree));
        is(tree, "a method has some sixty lines", end - start < MOST_METHOD_LINES);
        is(tree, "a method has at most seven parameters", tree.getParameters().size() <= MOST_PARAMETERS);
        is(tree, "no private method has the name of a public one", !method.getModifiers().contains(Modifier.PRIVATE)
                || !publicNames.contains(tree.getName().toString()));
        return super.visitMethod(tree, none);
    }

    @Override
    public Void visitMethodInvocation(MethodInvocationTree tree, Void none) {
        Element called = trees.getElement(getCurrentPath());
        String owner = called.getEnclosingElement().toString();
        if (owner.startsWith("PatchbayScript")) {
            calls.get(method()).add(called);
        } else if (called.getKind() != ElementKind.CONSTRUCTOR) {
            String name = owner + "." + called.getSimpleName();
            is(tree, "the library has " + name, LIBRARY.contains(name));
        }
        return super.visitMethodInvocation(tree, none);
    }

    /** Where objects are made: in constructors, in what is written at fields, and where they are thrown. */
    @Override
    public Void visitNewClass(NewClassTree tree, Void none) {
        boolean isThrown = getCurrentPath().getParentPath().getLeaf().getKind() == Kind.THROW;
        is(tree, "no call makes an object", isThrown || isInConstructor() || method() == null);
        is(tree, "no class is made without a name", tree.getClassBody() == null);
        return super.visitNewClass(tree, none);
    }

    @Override
    public Void visitNewArray(NewArrayTree tree, Void none) {
        is(tree, "no call makes an array", isInConstructor() || method() == null);
        return super.visitNewArray(tree, none);
    }

    @Override
    public Void visitThrow(ThrowTree tree, Void none) {
        ExpressionTree thrown = tree.getExpression();
        boolean isNew = thrown instanceof NewClassTree made && THROWN.contains(made.getIdentifier().toString())
                && made.getArguments().size() == 1 && made.getArguments().get(0).getKind() == Kind.STRING_LITERAL;
        is(tree, "what is thrown is new, of the document, with a written text", isNew);
        is(tree, "no constructor throws", !isInConstructor());
        return super.visitThrow(tree, none);
    }

    @Override
    public Void visitTypeCast(TypeCastTree tree, Void none) {
        is(tree, "numbers and signs alone are cast", tree.getType().getKind() == Kind.PRIMITIVE_TYPE);
        return super.visitTypeCast(tree, none);
    }

    @Override
    public Void visitBinary(BinaryTree tree, Void none) {
        boolean hasText = isText(tree.getLeftOperand()) || isText(tree.getRightOperand());
        is(tree, "no texts are joined or compared by a sign", !hasText);
        if (DIVISIONS.contains(tree.getKind())) {
            is(tree, "it is divided by a constant that is not 0", isConstantBut0(tree.getRightOperand()));
        }
        return super.visitBinary(tree, none);
    }

    @Override
    public Void visitCompoundAssignment(CompoundAssignmentTree tree, Void none) {
        Set<Kind> divisions = Set.of(Kind.DIVIDE_ASSIGNMENT, Kind.REMAINDER_ASSIGNMENT);
        is(tree, "it is divided by a constant that is not 0",
                !divisions.contains(tree.getKind()) || isConstantBut0(tree.getExpression()));
        return super.visitCompoundAssignment(tree, none);
    }

    private boolean isConstantBut0(ExpressionTree divisor) {
        if (divisor.getKind() == Kind.INT_LITERAL) {
            return !divisor.toString().equals("0");
        }
        Element element = trees.getElement(new TreePath(getCurrentPath(), divisor));
        return element instanceof VariableElement constant && constant.getConstantValue() instanceof Integer value
                && value != 0;
    }

    @Override
    public Void visitForLoop(ForLoopTree tree, Void none) {
        boolean isStepped = !tree.getUpdate().isEmpty();
        is(tree, "a loop has a bound and a step in its own line", isStepped && hasBound(tree.getCondition()));
        return super.visitForLoop(tree, none);
    }

    private static boolean hasBound(ExpressionTree condition) {
        if (condition instanceof BinaryTree binary) {
            boolean isOr = binary.getKind() == Kind.CONDITIONAL_OR;
            return BOUNDS.contains(binary.getKind())
                    || !isOr && (hasBound(binary.getLeftOperand()) || hasBound(binary.getRightOperand()));
        }
        return false;
    }

    // ---- how deep calls go that are no recursion: methods that call one another count as one

    private void depths() {
        Map<Element, Set<Element>> reached = new HashMap<>();
        for (Element method : calls.keySet()) {
            reached.put(method, reachedFrom(method));
        }
        Map<Element, Integer> known = new HashMap<>();
        Map<String, Integer> deep = new TreeMap<>();
        for (Element method : calls.keySet()) {
            int depth = depthOf(method, reached, known);
            if (depth > MOST_DEPTH) {
                deep.put(method.getEnclosingElement().getSimpleName() + "." + method.getSimpleName(), depth);
            }
        }
        Due.is("calls that go too deep", deep.toString(), "{}");
    }

    private Set<Element> reachedFrom(Element method) {
        Set<Element> found = new HashSet<>();
        Deque<Element> left = new ArrayDeque<>(calls.get(method));
        while (!left.isEmpty()) {
            Element next = left.pop();
            if (found.add(next)) {
                left.addAll(calls.getOrDefault(next, Set.of()));
            }
        }
        return found;
    }

    private int depthOf(Element method, Map<Element, Set<Element>> reached, Map<Element, Integer> known) {
        if (known.containsKey(method)) {
            return known.get(method);
        }
        int below = 0;
        for (Element same : calls.keySet()) {
            if (same == method || reached.get(same).contains(method) && reached.get(method).contains(same)) {
                for (Element next : calls.get(same)) {
                    boolean isBelow = calls.containsKey(next) && !reached.get(next).contains(method);
                    below = isBelow ? Math.max(below, depthOf(next, reached, known)) : below;
                }
            }
        }
        known.put(method, below + 1);
        return below + 1;
    }
}
