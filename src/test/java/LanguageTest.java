import com.sun.source.tree.AssertTree;
import com.sun.source.tree.BinaryTree;
import com.sun.source.tree.ClassTree;
import com.sun.source.tree.CompilationUnitTree;
import com.sun.source.tree.DoWhileLoopTree;
import com.sun.source.tree.EnhancedForLoopTree;
import com.sun.source.tree.ForLoopTree;
import com.sun.source.tree.LambdaExpressionTree;
import com.sun.source.tree.LineMap;
import com.sun.source.tree.MemberReferenceTree;
import com.sun.source.tree.MethodInvocationTree;
import com.sun.source.tree.MethodTree;
import com.sun.source.tree.NewArrayTree;
import com.sun.source.tree.NewClassTree;
import com.sun.source.tree.SynchronizedTree;
import com.sun.source.tree.ThrowTree;
import com.sun.source.tree.Tree;
import com.sun.source.tree.TryTree;
import com.sun.source.tree.TypeCastTree;
import com.sun.source.tree.VariableTree;
import com.sun.source.tree.WhileLoopTree;
import com.sun.source.util.JavacTask;
import com.sun.source.util.TreePath;
import com.sun.source.util.TreePathScanner;
import com.sun.source.util.Trees;
import java.io.IOException;
import java.nio.file.Files;
import java.nio.file.Path;
import java.util.ArrayList;
import java.util.HashMap;
import java.util.List;
import java.util.Map;
import java.util.Set;
import java.util.TreeSet;
import java.util.function.Supplier;
import javax.lang.model.element.Element;
import javax.lang.model.element.ElementKind;
import javax.lang.model.element.ExecutableElement;
import javax.lang.model.element.Modifier;
import javax.lang.model.element.TypeElement;
import javax.lang.model.type.ArrayType;
import javax.lang.model.type.TypeKind;
import javax.lang.model.type.TypeMirror;
import javax.tools.JavaCompiler;
import javax.tools.StandardJavaFileManager;
import javax.tools.ToolProvider;

/** The source keeps to ../shared/LANGUAGE.md, as far as the compiler's own trees show it. */
public final class LanguageTest extends TreePathScanner<Void, Void> {
    private static final Checks CHECKS = new Checks();
    private static final Path SOURCE = Path.of("src/main/java/FailBadge.java");

    // Rule 4, and of it only what the program uses: what it takes up in addition is looked up there.
    private static final Set<String> LIBRARY = Set.of(
            "java.lang.String.length", "java.lang.String.charAt",
            "java.lang.Integer.bitCount", "java.lang.Integer.numberOfTrailingZeros",
            "java.lang.Math.max", "java.lang.Math.min", "java.lang.System.arraycopy",
            "java.util.Arrays.copyOf", "java.util.Arrays.fill", "Array.clone");
    // Rule 8: the only calls that go round; both carry how deep they are.
    private static final Set<String> CALL_ONE_ANOTHER = Set.of("RuleReader.readTest",
            "RuleReader.readFact");
    private static final int MOST_DEEP = 8;
    private static final int MOST_LINES = 60;
    private static final int MOST_PARAMETERS = 7;
    private static final int MOST_CLASSES = 12;
    private static final int MOST_FIELDS = 20;

    private final Trees trees;
    private final CompilationUnitTree unit;
    private final Map<String, Set<String>> calls = new HashMap<>();
    private final Set<String> open = new TreeSet<>();
    private String method = "";
    private boolean isInConstructor = false;
    private int loops = 0;
    private int classes = 0;

    private LanguageTest(Trees trees, CompilationUnitTree unit) {
        this.trees = trees;
        this.unit = unit;
    }

    public static void main(String[] args) throws IOException {
        JavaCompiler compiler = ToolProvider.getSystemJavaCompiler();
        try (StandardJavaFileManager files = compiler.getStandardFileManager(null, null, null)) {
            JavacTask task = (JavacTask) compiler.getTask(null, files, null,
                    List.of("--release", "17", "-proc:none"), null,
                    files.getJavaFileObjects(SOURCE.toFile()));
            CompilationUnitTree unit = task.parse().iterator().next();
            task.analyze();
            LanguageTest test = new LanguageTest(Trees.instance(task), unit);
            test.ofTheFile();
            test.scan(unit, null);
            test.ofCalls();
        }
        CHECKS.close();
    }

    private static void due(String what, boolean isSo) {
        CHECKS.due(what, isSo ? 1 : 0, 1);
    }

    private void ofTheFile() throws IOException {
        due("no package line", unit.getPackageName() == null);
        due("one class in the file", unit.getTypeDecls().size() == 1);
        due("signs below 128", Files.readString(SOURCE).chars().allMatch(c -> c < 128));
        unit.getImports().forEach(i -> due(i.toString(),
                i.getQualifiedIdentifier().toString().equals("java.util.Arrays")));
    }

    // ---- rule 2: classes

    @Override
    public Void visitClass(ClassTree tree, Void none) {
        classes++;
        Element element = trees.getElement(getCurrentPath());
        boolean isOuter = classes == 1;
        due("a class with a name: " + tree.getSimpleName(), !tree.getSimpleName().isEmpty());
        due(tree.getSimpleName() + " is the outer one, or static inside it",
                isOuter || element.getModifiers().contains(Modifier.STATIC)
                && element.getEnclosingElement().getKind() == ElementKind.CLASS);
        int fields = 0;
        for (Tree member : tree.getMembers()) {
            if (member instanceof VariableTree
                    && !((VariableTree) member).getModifiers().getFlags().contains(Modifier.STATIC)) {
                fields++;
            }
            due(tree.getSimpleName() + " has no initialiser block", member.getKind() != Tree.Kind.BLOCK);
        }
        due(tree.getSimpleName() + " has few fields: " + fields, fields <= MOST_FIELDS);
        due("few classes", classes <= MOST_CLASSES);
        return super.visitClass(tree, none);
    }

    @Override
    public Void visitLambdaExpression(LambdaExpressionTree tree, Void none) {
        return ruledOut(tree, "no lambda");
    }

    @Override
    public Void visitMemberReference(MemberReferenceTree tree, Void none) {
        return ruledOut(tree, "no method reference");
    }

    // ---- rules 3 and 5: types, and fields that all objects share

    @Override
    public Void visitVariable(VariableTree tree, Void none) {
        Element element = trees.getElement(getCurrentPath());
        TypeMirror type = element.asType();
        due(tree.getName() + " is of a type that may be: " + type, isAllowed(type));
        if (element.getKind() == ElementKind.FIELD
                && element.getModifiers().contains(Modifier.STATIC)) {
            due(tree.getName() + " is final", element.getModifiers().contains(Modifier.FINAL));
            due(tree.getName() + " is a constant", type.getKind().isPrimitive()
                    || type.toString().equals("java.lang.String"));
        }
        return super.visitVariable(tree, none);
    }

    private static boolean isAllowed(TypeMirror type) {
        if (type.getKind() == TypeKind.ARRAY) {
            TypeMirror of = ((ArrayType) type).getComponentType();
            return of.getKind() != TypeKind.ARRAY && isAllowed(of);
        }
        return type.getKind().isPrimitive() || type.toString().equals("java.lang.String")
                || type.toString().startsWith("FailBadge.");
    }

    // ---- rules 1, 11: methods

    @Override
    public Void visitMethod(MethodTree tree, Void none) {
        ExecutableElement element = (ExecutableElement) trees.getElement(getCurrentPath());
        method = nameOf(element);
        calls.putIfAbsent(method, new TreeSet<>());
        isInConstructor = element.getKind() == ElementKind.CONSTRUCTOR;
        due(method + " takes few parameters", tree.getParameters().size() <= MOST_PARAMETERS);
        due(method + " is short: " + linesOf(tree), linesOf(tree) <= MOST_LINES);
        if (element.getModifiers().contains(Modifier.PUBLIC)) {
            open.add(method);
        }
        Void end = super.visitMethod(tree, none);
        method = "";
        isInConstructor = false;
        return end;
    }

    private long linesOf(Tree tree) {
        LineMap lines = unit.getLineMap();
        long from = trees.getSourcePositions().getStartPosition(unit, tree);
        long to = trees.getSourcePositions().getEndPosition(unit, tree);
        return lines.getLineNumber(to) - lines.getLineNumber(from) + 1;
    }

    private static String nameOf(ExecutableElement element) {
        Element owner = element.getEnclosingElement();
        return owner.getSimpleName() + "." + element.getSimpleName();
    }

    // ---- rules 4, 8, 12: what is called and made

    @Override
    public Void visitMethodInvocation(MethodInvocationTree tree, Void none) {
        ExecutableElement called = (ExecutableElement) trees.getElement(getCurrentPath());
        Element owner = called.getEnclosingElement();
        if (called.getSimpleName().contentEquals("<init>")) {
            return super.visitMethodInvocation(tree, none);
        }
        due("no constructor or first value calls a method: " + tree,
                !isInConstructor && !method.isEmpty());
        String name = ((TypeElement) owner).getQualifiedName() + "." + called.getSimpleName();
        if (name.startsWith("FailBadge")) {
            calls.computeIfAbsent(method, m -> new TreeSet<>()).add(nameOf(called));
        } else {
            due(name + " may be used", LIBRARY.contains(name));
        }
        return super.visitMethodInvocation(tree, none);
    }

    @Override
    public Void visitNewClass(NewClassTree tree, Void none) {
        due("not in a loop: " + tree, loops == 0);
        due("a first value hands out nothing: " + tree,
                tree.getArguments().isEmpty() || !method.isEmpty());
        due("of one of its own classes: " + tree, isAllowed(trees.getTypeMirror(getCurrentPath())));
        return super.visitNewClass(tree, none);
    }

    @Override
    public Void visitNewArray(NewArrayTree tree, Void none) {
        due("not in a loop: " + tree, loops == 0);
        due("of one dimension: " + tree, tree.getDimensions().size() == 1);
        return super.visitNewArray(tree, none);
    }

    /** The dearest chains of calls, those that call one another taken as one. */
    private void ofCalls() {
        due("35 methods and a constructor are open: " + open, open.size() == 36);
        for (String name : calls.keySet()) {
            String last = name.substring(name.indexOf('.') + 1);
            due(name + " has a name of its own", open.contains(name) || last.equals("<init>")
                    || !open.contains("FailBadge." + last));
            if (!name.isEmpty()) {
                deepest(name, new ArrayList<>());
            }
        }
    }

    private int deepest(String name, List<String> above) {
        if (above.contains(name)) {
            due("go round: " + above + ", " + name, CALL_ONE_ANOTHER.contains(name)
                    && CALL_ONE_ANOTHER.containsAll(above.subList(above.indexOf(name), above.size())));
            return 0;
        }
        above.add(name);
        int deep = 0;
        for (String next : calls.getOrDefault(name, Set.of())) {
            deep = Math.max(deep, deepest(next, above));
        }
        above.remove(above.size() - 1);
        due(name + " goes few calls deep: " + (deep + 1), deep + 1 <= MOST_DEEP);
        return deep + 1;
    }

    // ---- rules 6 and 10: statements and signs

    @Override
    public Void visitThrow(ThrowTree tree, Void none) {
        return ruledOut(tree, "no throw");
    }

    @Override
    public Void visitTry(TryTree tree, Void none) {
        return ruledOut(tree, "no try");
    }

    @Override
    public Void visitSynchronized(SynchronizedTree tree, Void none) {
        return ruledOut(tree, "no synchronized");
    }

    @Override
    public Void visitAssert(AssertTree tree, Void none) {
        return ruledOut(tree, "no assert");
    }

    @Override
    public Void visitTypeCast(TypeCastTree tree, Void none) {
        due("a cast of numbers: " + tree, trees.getTypeMirror(getCurrentPath()).getKind().isPrimitive());
        return super.visitTypeCast(tree, none);
    }

    @Override
    public Void visitBinary(BinaryTree tree, Void none) {
        TypeMirror left = trees.getTypeMirror(new TreePath(getCurrentPath(), tree.getLeftOperand()));
        boolean isOfNumbers = left.getKind().isPrimitive();
        boolean isAgainstNull = tree.getRightOperand().getKind() == Tree.Kind.NULL_LITERAL;
        due("of numbers, or against null: " + tree, isOfNumbers || isAgainstNull);
        return super.visitBinary(tree, none);
    }

    // ---- rule 9: loops

    @Override
    public Void visitForLoop(ForLoopTree tree, Void none) {
        due("a bound: for (" + tree.getCondition() + ")", tree.getCondition() != null
                && tree.getCondition().toString().matches("(?s).*(<|>).*"));
        due("a counter: for (" + tree.getCondition() + ")", !tree.getUpdate().isEmpty());
        return loop(() -> super.visitForLoop(tree, none));
    }

    @Override
    public Void visitWhileLoop(WhileLoopTree tree, Void none) {
        due("a bound: while " + tree.getCondition(),
                tree.getCondition().toString().matches("(?s).*(<|>).*"));
        return loop(() -> super.visitWhileLoop(tree, none));
    }

    @Override
    public Void visitDoWhileLoop(DoWhileLoopTree tree, Void none) {
        due("a bound: do .. while " + tree.getCondition(),
                tree.getCondition().toString().matches("(?s).*(<|>).*"));
        return loop(() -> super.visitDoWhileLoop(tree, none));
    }

    @Override
    public Void visitEnhancedForLoop(EnhancedForLoopTree tree, Void none) {
        return loop(() -> super.visitEnhancedForLoop(tree, none));
    }

    private Void loop(Supplier<Void> inside) {
        loops++;
        Void end = inside.get();
        loops--;
        return end;
    }

    private Void ruledOut(Tree tree, String rule) {
        due(rule + ": " + tree, false);
        return null;
    }
}
