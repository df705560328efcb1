import com.sun.source.tree.AssertTree;
import com.sun.source.tree.BinaryTree;
import com.sun.source.tree.BlockTree;
import com.sun.source.tree.ClassTree;
import com.sun.source.tree.CompilationUnitTree;
import com.sun.source.tree.CompoundAssignmentTree;
import com.sun.source.tree.DoWhileLoopTree;
import com.sun.source.tree.EnhancedForLoopTree;
import com.sun.source.tree.ForLoopTree;
import com.sun.source.tree.IfTree;
import com.sun.source.tree.LambdaExpressionTree;
import com.sun.source.tree.LiteralTree;
import com.sun.source.tree.MemberReferenceTree;
import com.sun.source.tree.MethodInvocationTree;
import com.sun.source.tree.MethodTree;
import com.sun.source.tree.NewArrayTree;
import com.sun.source.tree.NewClassTree;
import com.sun.source.tree.SynchronizedTree;
import com.sun.source.tree.ThrowTree;
import com.sun.source.tree.Tree;
import com.sun.source.tree.TryTree;
import com.sun.source.tree.VariableTree;
import com.sun.source.tree.WhileLoopTree;
import com.sun.source.util.JavacTask;
import com.sun.source.util.TreePath;
import com.sun.source.util.TreePathScanner;
import com.sun.source.util.Trees;
import java.io.IOException;
import java.nio.file.Path;
import java.util.HashMap;
import java.util.HashSet;
import java.util.List;
import java.util.Map;
import java.util.Set;
import java.util.TreeSet;
import javax.lang.model.element.Element;
import javax.lang.model.element.ElementKind;
import javax.lang.model.element.ExecutableElement;
import javax.lang.model.element.Modifier;
import javax.lang.model.element.TypeElement;
import javax.lang.model.type.ArrayType;
import javax.lang.model.type.TypeMirror;
import javax.tools.JavaCompiler;
import javax.tools.StandardJavaFileManager;
import javax.tools.ToolProvider;

/**
 * The rules of ../shared/LANGUAGE.md that can be seen in the source of the program, as the compiler reads it.
 * Where a rule allows more than the program needs, such as catching, the test allows what the program needs.
 * Runs in the project's folder.
 */
public final class LanguageTest extends TreePathScanner<Void, Void> {
    private static final Path SOURCE = Path.of("src/main/java/Tabulator.java");
    private static final int DEEPEST_CALL = 8;
    private static final int LONGEST_METHOD = 60;
    private static final int MOST_PARAMETERS = 7;
    private static final int MOST_CLASSES = 12;
    private static final int MOST_FIELDS = 20;

    /** Rule 4, as far as the program uses it. */
    private static final Set<String> LIBRARY = Set.of(
        "String.length", "String.charAt", "String.isEmpty", "String.equals", "String.substring", "String.toCharArray",
        "StringBuilder.append", "StringBuilder.charAt", "StringBuilder.length", "StringBuilder.toString",
        "System.arraycopy", "Arrays.copyOf", "Arrays.copyOfRange", "Arrays.fill",
        "Math.abs", "Math.min", "Math.max", "Math.floorMod", "Math.floorDiv");
    private static final Set<String> EXCEPTIONS = Set.of("IllegalStateException", "IllegalArgumentException",
        "IndexOutOfBoundsException", "ArithmeticException", "UnsupportedOperationException", "NoSuchElementException", "RuntimeException");
    private static final Set<String> OBJECT_METHODS = Set.of("equals", "hashCode", "toString", "finalize", "compareTo");
    private static final Set<String> TYPES = Set.of("int", "long", "short", "byte", "char", "boolean", "double", "float", "void",
        "java.lang.String", "java.lang.StringBuilder");

    private final Trees trees;
    private final CompilationUnitTree unit;
    private final Map<String, Set<String>> calls = new HashMap<>();
    private final Set<String> face = new HashSet<>();
    private final Set<String> faceNames = new HashSet<>();
    private final Set<String> otherNames = new TreeSet<>();
    private int classes = 0;
    private int methods = 0;

    private LanguageTest(Trees trees, CompilationUnitTree unit) {
        this.trees = trees;
        this.unit = unit;
    }

    public static void main(String[] args) throws IOException {
        JavaCompiler compiler = ToolProvider.getSystemJavaCompiler();
        try (StandardJavaFileManager files = compiler.getStandardFileManager(null, null, null)) {
            JavacTask task = (JavacTask) compiler.getTask(null, files, null, List.of("--release", "17", "-proc:none"), null,
                files.getJavaFileObjects(SOURCE));
            List<CompilationUnitTree> units = new java.util.ArrayList<>();
            task.parse().forEach(units::add);
            task.analyze();
            Check.same("one file", 1, units.size());
            LanguageTest test = new LanguageTest(Trees.instance(task), units.get(0));
            test.scan(units.get(0), null);
            test.checkWhole();
        }
        Check.ends("LanguageTest");
    }

    private void checkWhole() {
        Check.same("rule 1: no package", null + "", unit.getPackageName() + "");
        Check.same("rule 1: one class in the file", 1, unit.getTypeDecls().size());
        Check.same("rule 11: some twelve classes at most", true, classes <= MOST_CLASSES);
        Check.same("the program was read", true, methods > 43);
        Set<String> twice = new TreeSet<>(otherNames);
        twice.retainAll(faceNames);
        Check.same("rule 1: names of the face that other methods bear", "[]", twice.toString());
        for (String method : face) {
            int depth = depth(method, new HashSet<>());
            if (depth > DEEPEST_CALL) {
                Check.same("rule 11: depth of the calls of " + method, DEEPEST_CALL, depth);
            }
        }
    }

    /** The number of calls that stand open at once below and with this one; rule 8 allows recursion, the program has none. */
    private int depth(String method, Set<String> open) {
        if (!open.add(method)) {
            Check.same("rule 8: calls itself", "no method", method);
            return 0;
        }
        int deepest = 0;
        for (String called : calls.getOrDefault(method, Set.of())) {
            deepest = Math.max(deepest, depth(called, open));
        }
        open.remove(method);
        return deepest + 1;
    }

    private void wrong(String rule, Tree tree) {
        long place = trees.getSourcePositions().getStartPosition(unit, tree);
        Check.same("rule " + rule + ", line " + unit.getLineMap().getLineNumber(place), "something else", tree.toString().lines().findFirst().orElse(""));
    }

    private Element element(Tree tree) {
        return trees.getElement(new TreePath(getCurrentPath(), tree));
    }

    private TypeMirror type(Tree tree) {
        return trees.getTypeMirror(new TreePath(getCurrentPath(), tree));
    }

    private static boolean isOwn(Element element) {
        Element outer = element;
        while (outer.getEnclosingElement() != null && outer.getEnclosingElement().getKind() != ElementKind.PACKAGE) {
            outer = outer.getEnclosingElement();
        }
        return outer.getSimpleName().contentEquals("Tabulator");
    }

    private static String key(Element method) {
        String owner = method.getEnclosingElement().getSimpleName().toString();
        return method.getKind() == ElementKind.CONSTRUCTOR ? owner + ".<init>" : owner + "." + method;
    }

    /** The method round the current place; the constructor for what stands in a field's initialiser. */
    private String caller() {
        for (TreePath path = getCurrentPath(); path != null; path = path.getParentPath()) {
            if (path.getLeaf() instanceof MethodTree) {
                return key(trees.getElement(path));
            }
            if (path.getLeaf() instanceof ClassTree) {
                return trees.getElement(path).getSimpleName() + ".<init>";
            }
        }
        return "";
    }

    private boolean isInside(Class<?>... kinds) {
        for (TreePath path = getCurrentPath().getParentPath(); path != null && !(path.getLeaf() instanceof MethodTree); path = path.getParentPath()) {
            for (Class<?> kind : kinds) {
                if (kind.isInstance(path.getLeaf())) {
                    return true;
                }
            }
        }
        return false;
    }

    private boolean isInLoop() {
        return isInside(ForLoopTree.class, EnhancedForLoopTree.class, WhileLoopTree.class, DoWhileLoopTree.class) && !isInside(ThrowTree.class);
    }

    @Override
    public Void visitClass(ClassTree tree, Void nothing) {
        classes++;
        TypeElement owner = (TypeElement) trees.getElement(getCurrentPath());
        boolean isFace = owner.getSimpleName().contentEquals("Tabulator");
        Set<Modifier> modifiers = owner.getModifiers();
        Check.same("rule 1: " + owner + " is public", isFace, modifiers.contains(Modifier.PUBLIC));
        Check.same("rule 1: " + owner + " is static or the face", true, isFace || modifiers.contains(Modifier.STATIC));
        int fields = 0;
        for (Tree member : tree.getMembers()) {
            if (member instanceof BlockTree) {
                wrong("5: no initialiser block", member);
            }
            if (member instanceof VariableTree) {
                Element field = element(member);
                boolean isStatic = field.getModifiers().contains(Modifier.STATIC);
                fields += isStatic ? 0 : 1;
                Check.same("rule 5: static " + field + " is final", true, !isStatic || field.getModifiers().contains(Modifier.FINAL));
            }
        }
        Check.same("rule 11: " + owner + " has some twenty fields at most", true, fields <= MOST_FIELDS);
        return super.visitClass(tree, nothing);
    }

    @Override
    public Void visitMethod(MethodTree tree, Void nothing) {
        methods++;
        ExecutableElement method = (ExecutableElement) trees.getElement(getCurrentPath());
        String name = method.getSimpleName().toString();
        boolean isPublic = method.getModifiers().contains(Modifier.PUBLIC);
        boolean isOfFace = method.getEnclosingElement().getSimpleName().contentEquals("Tabulator");
        if (isPublic && isOfFace) {
            face.add(key(method));
            faceNames.add(name);
        } else if (method.getKind() != ElementKind.CONSTRUCTOR) {
            otherNames.add(name);
        }
        if (isOfFace && !isPublic && !method.getModifiers().contains(Modifier.PRIVATE)) {
            wrong("1: no other member that can be seen", tree);
        }
        if (OBJECT_METHODS.contains(name) || method.getModifiers().contains(Modifier.SYNCHRONIZED)) {
            wrong("6", tree);
        }
        if (tree.getParameters().size() > MOST_PARAMETERS) {
            wrong("11: at most seven parameters", tree);
        }
        if (lines(tree) > LONGEST_METHOD) {
            wrong("11: some sixty lines", tree);
        }
        return super.visitMethod(tree, nothing);
    }

    private long lines(Tree tree) {
        long start = trees.getSourcePositions().getStartPosition(unit, tree);
        long end = trees.getSourcePositions().getEndPosition(unit, tree);
        // a constructor that the compiler adds has no end
        return end < 0 ? 0 : unit.getLineMap().getLineNumber(end) - unit.getLineMap().getLineNumber(start) + 1;
    }

    @Override
    public Void visitVariable(VariableTree tree, Void nothing) {
        if (!isAllowed(trees.getTypeMirror(getCurrentPath()))) {
            wrong("3: types", tree);
        }
        return super.visitVariable(tree, nothing);
    }

    private static boolean isAllowed(TypeMirror type) {
        if (type instanceof ArrayType) {
            TypeMirror cell = ((ArrayType) type).getComponentType();
            return cell instanceof ArrayType ? ((ArrayType) cell).getComponentType().getKind().isPrimitive() : isAllowed(cell);
        }
        return TYPES.contains(type.toString()) || type.toString().startsWith("Tabulator.");
    }

    @Override
    public Void visitMethodInvocation(MethodInvocationTree tree, Void nothing) {
        Element method = element(tree.getMethodSelect());
        boolean isConstructor = method.getKind() == ElementKind.CONSTRUCTOR;
        if (isOwn(method)) {
            calls.computeIfAbsent(caller(), caller -> new HashSet<>()).add(key(method));
        } else if (!isConstructor) {
            String name = method.getEnclosingElement().getSimpleName() + "." + method.getSimpleName();
            if (!LIBRARY.contains(name)) {
                wrong("4: the library", tree);
            }
            boolean ofNumbers = !name.startsWith("Arrays.") || !type(tree.getArguments().get(0)).toString().matches("boolean\\[\\]|.*\\..*");
            if (!ofNumbers) {
                wrong("4: Arrays over arrays of numbers", tree);
            }
        }
        return super.visitMethodInvocation(tree, nothing);
    }

    @Override
    public Void visitNewClass(NewClassTree tree, Void nothing) {
        Element constructor = element(tree);
        String name = constructor.getEnclosingElement().getSimpleName().toString();
        if (isOwn(constructor)) {
            calls.computeIfAbsent(caller(), caller -> new HashSet<>()).add(key(constructor));
        } else if (!EXCEPTIONS.contains(name) && !name.equals("StringBuilder")) {
            wrong("4: the library", tree);
        }
        if (isInLoop()) {
            wrong("12: nothing is made in a loop", tree);
        }
        return super.visitNewClass(tree, nothing);
    }

    @Override
    public Void visitNewArray(NewArrayTree tree, Void nothing) {
        if (isInLoop()) {
            wrong("12: nothing is made in a loop", tree);
        }
        return super.visitNewArray(tree, nothing);
    }

    @Override
    public Void visitThrow(ThrowTree tree, Void nothing) {
        boolean isNew = tree.getExpression() instanceof NewClassTree;
        if (!isNew || !EXCEPTIONS.contains(((NewClassTree) tree.getExpression()).getIdentifier().toString())) {
            wrong("6: throw new E", tree);
        } else {
            for (Tree argument : ((NewClassTree) tree.getExpression()).getArguments()) {
                if (!(argument instanceof LiteralTree)) {
                    wrong("6: a written text", tree);
                }
            }
        }
        if (caller().endsWith("<init>")) {
            wrong("6: no throw in a constructor", tree);
        }
        return super.visitThrow(tree, nothing);
    }

    @Override
    public Void visitBinary(BinaryTree tree, Void nothing) {
        boolean left = isText(type(tree.getLeftOperand()));
        boolean right = isText(type(tree.getRightOperand()));
        boolean compares = tree.getKind() == Tree.Kind.EQUAL_TO || tree.getKind() == Tree.Kind.NOT_EQUAL_TO;
        if (compares ? left && right : left || right) {
            wrong("6 and 10: texts", tree);
        }
        return super.visitBinary(tree, nothing);
    }

    @Override
    public Void visitCompoundAssignment(CompoundAssignmentTree tree, Void nothing) {
        if (isText(type(tree.getVariable()))) {
            wrong("10: joining texts", tree);
        }
        return super.visitCompoundAssignment(tree, nothing);
    }

    private static boolean isText(TypeMirror type) {
        return type != null && (type.toString().equals("java.lang.String") || type.toString().equals("java.lang.Integer"));
    }

    @Override
    public Void visitIf(IfTree tree, Void nothing) {
        if (!(tree.getThenStatement() instanceof BlockTree)) {
            wrong("of the project: braces", tree);
        }
        return super.visitIf(tree, nothing);
    }

    @Override
    public Void visitTry(TryTree tree, Void nothing) {
        wrong("6: the program needs no try", tree);
        return super.visitTry(tree, nothing);
    }

    @Override
    public Void visitLambdaExpression(LambdaExpressionTree tree, Void nothing) {
        wrong("2: no lambda", tree);
        return super.visitLambdaExpression(tree, nothing);
    }

    @Override
    public Void visitMemberReference(MemberReferenceTree tree, Void nothing) {
        wrong("2: no method reference", tree);
        return super.visitMemberReference(tree, nothing);
    }

    @Override
    public Void visitSynchronized(SynchronizedTree tree, Void nothing) {
        wrong("6: no synchronized", tree);
        return super.visitSynchronized(tree, nothing);
    }

    @Override
    public Void visitAssert(AssertTree tree, Void nothing) {
        wrong("6: no assert", tree);
        return super.visitAssert(tree, nothing);
    }
}
