import com.sun.source.tree.ClassTree;
import com.sun.source.tree.CompilationUnitTree;
import com.sun.source.tree.ExpressionTree;
import com.sun.source.tree.LiteralTree;
import com.sun.source.tree.MethodInvocationTree;
import com.sun.source.tree.MethodTree;
import com.sun.source.tree.NewClassTree;
import com.sun.source.tree.ThrowTree;
import com.sun.source.tree.Tree;
import com.sun.source.tree.TypeCastTree;
import com.sun.source.tree.VariableTree;
import com.sun.source.util.JavacTask;
import com.sun.source.util.TreePath;
import com.sun.source.util.TreePathScanner;
import com.sun.source.util.Trees;
import java.io.File;
import java.io.IOException;
import java.util.HashMap;
import java.util.HashSet;
import java.util.List;
import java.util.Map;
import java.util.Set;
import javax.lang.model.element.Element;
import javax.lang.model.element.Modifier;
import javax.tools.JavaCompiler;
import javax.tools.StandardJavaFileManager;
import javax.tools.ToolProvider;

/** LANGUAGE.md, as far as the compiler's own reading of the program can tell: the rule's number comes first. */
public final class LanguageTest extends TreePathScanner<Void, Void> {
    private static final String SOURCE = "src/main/java/AreaWarnings.java";
    private static final Set<Tree.Kind> FORBIDDEN = Set.of(Tree.Kind.LAMBDA_EXPRESSION, Tree.Kind.MEMBER_REFERENCE,
        Tree.Kind.SYNCHRONIZED, Tree.Kind.ASSERT, Tree.Kind.TRY, Tree.Kind.IMPORT, Tree.Kind.PACKAGE,
        Tree.Kind.ANNOTATION, Tree.Kind.DOUBLE_LITERAL, Tree.Kind.FLOAT_LITERAL);
    private static final Set<String> OWN = Set.of("AreaWarnings", "Message", "Area", "Texts", "Warning", "Version",
        "Spoken", "Cancel", "Cell", "Handset");
    private static final Set<String> NUMBERS = Set.of("int", "long", "boolean");
    private static final Set<String> ROWS = Set.of("int[]", "int[][]", "boolean[]");
    private static final Set<String> EXCEPTIONS = Set.of("IllegalStateException", "IllegalArgumentException",
        "IndexOutOfBoundsException", "UnsupportedOperationException");
    /** All of the library that the program uses; rule 4 leaves more. */
    private static final Set<String> LIBRARY = Set.of("max(int,int)", "min(int,int)");
    private static final int MOST_PARAMETERS = 7;
    private static final int MOST_LINES = 60;
    private static final int MOST_CLASSES = 12;
    private static final int MOST_FIELDS = 20;
    private static final int DEEPEST_CALLS = 8;

    private final Trees trees;
    private final CompilationUnitTree unit;
    private final Map<Element, Set<Element>> calls = new HashMap<>();
    private int classes = 0;

    private LanguageTest(Trees trees, CompilationUnitTree unit) {
        this.trees = trees;
        this.unit = unit;
    }

    public static void main(String[] args) throws IOException {
        JavaCompiler compiler = ToolProvider.getSystemJavaCompiler();
        try (StandardJavaFileManager files = compiler.getStandardFileManager(null, null, null)) {
            JavacTask task = (JavacTask) compiler.getTask(null, files, null, List.of("--release", "17", "-proc:none"),
                null, files.getJavaFileObjects(new File(SOURCE)));
            CompilationUnitTree unit = task.parse().iterator().next();
            task.analyze();
            LanguageTest test = new LanguageTest(Trees.instance(task), unit);
            Check.equal("1: one class in the file", 1, unit.getTypeDecls().size());
            test.scan(unit, null);
            test.afterAll();
        }
        Check.finish();
    }

    private void afterAll() {
        Check.isTrue("11: some twelve classes: " + classes, classes <= MOST_CLASSES);
        Check.equal("the classes of the program, all known here", OWN.size(), classes);
        for (Element method : calls.keySet()) {
            int depth = depth(method, 1);
            Check.isTrue("8, 11: calls go at most eight deep, without recursion: " + method + " " + depth,
                depth <= DEEPEST_CALLS);
        }
    }

    /** How many calls stand open at once below this one; recursion would make it go beyond the bound. */
    private int depth(Element method, int open) {
        int deepest = open;
        if (open > DEEPEST_CALLS) {
            return open;
        }
        for (Element called : calls.getOrDefault(method, Set.of())) {
            deepest = Math.max(deepest, depth(called, open + 1));
        }
        return deepest;
    }

    @Override
    public Void scan(Tree tree, Void none) {
        if (tree != null) {
            Check.isFalse("2, 6: " + tree.getKind() + " at line " + line(tree), FORBIDDEN.contains(tree.getKind()));
        }
        return super.scan(tree, none);
    }

    @Override
    public Void visitClass(ClassTree tree, Void none) {
        classes++;
        Tree around = getCurrentPath().getParentPath().getLeaf();
        Set<Modifier> flags = tree.getModifiers().getFlags();
        boolean isInside = around instanceof ClassTree;
        Check.isTrue("2: no class inside a method: " + tree.getSimpleName(), isInside || around == unit);
        Check.isTrue("1: static inside: " + tree.getSimpleName(), !isInside || flags.contains(Modifier.STATIC));
        int fields = 0;
        for (Tree member : tree.getMembers()) {
            Check.isFalse("5: no block that initialises: " + tree.getSimpleName(), member.getKind() == Tree.Kind.BLOCK);
            if (member instanceof VariableTree field) {
                fields += field.getModifiers().getFlags().contains(Modifier.STATIC) ? 0 : 1;
                constant(field);
            }
        }
        Check.isTrue("11: some twenty fields: " + tree.getSimpleName() + " " + fields, fields <= MOST_FIELDS);
        return super.visitClass(tree, none);
    }

    private static void constant(VariableTree field) {
        Set<Modifier> flags = field.getModifiers().getFlags();
        if (flags.contains(Modifier.STATIC)) {
            Check.isTrue("5: static is final: " + field.getName(), flags.contains(Modifier.FINAL));
            Check.same("5: type of " + field.getName(), "int", field.getType().toString());
        }
    }

    @Override
    public Void visitMethod(MethodTree tree, Void none) {
        calls.computeIfAbsent(element(getCurrentPath()), method -> new HashSet<>());
        Check.isTrue("11: parameters of " + tree.getName(), tree.getParameters().size() <= MOST_PARAMETERS);
        Check.isTrue("11: lines of " + tree.getName(), lines(tree) <= MOST_LINES);
        return super.visitMethod(tree, none);
    }

    @Override
    public Void visitVariable(VariableTree tree, Void none) {
        String type = tree.getType().toString();
        boolean isOwn = OWN.contains(type.endsWith("[]") ? type.substring(0, type.length() - 2) : type);
        Check.isTrue("3: type " + type + " at line " + line(tree), isOwn || NUMBERS.contains(type) || ROWS.contains(type));
        return super.visitVariable(tree, none);
    }

    @Override
    public Void visitMethodInvocation(MethodInvocationTree tree, Void none) {
        Element called = element(getCurrentPath());
        if (isOwn(called)) {
            calls.get(element(around(MethodTree.class))).add(called);
        } else if (!called.toString().equals("Object()")) {
            Check.isTrue("4: of the library: " + called + " at line " + line(tree), LIBRARY.contains(called.toString())
                && called.getEnclosingElement().toString().equals("java.lang.Math"));
        }
        return super.visitMethodInvocation(tree, none);
    }

    @Override
    public Void visitNewClass(NewClassTree tree, Void none) {
        Element made = element(getCurrentPath());
        if (isOwn(made)) {
            calls.get(element(around(MethodTree.class))).add(made);
        } else {
            Check.isTrue("6: " + made + " at line " + line(tree), EXCEPTIONS.contains(tree.getIdentifier().toString()));
        }
        return super.visitNewClass(tree, none);
    }

    @Override
    public Void visitTypeCast(TypeCastTree tree, Void none) {
        Check.isTrue("6: a cast among numbers, line " + line(tree), NUMBERS.contains(tree.getType().toString()));
        return super.visitTypeCast(tree, none);
    }

    @Override
    public Void visitThrow(ThrowTree tree, Void none) {
        Check.isFalse("6: no throw in a constructor, line " + line(tree),
            ((MethodTree) around(MethodTree.class).getLeaf()).getReturnType() == null);
        boolean isNew = tree.getExpression() instanceof NewClassTree;
        Check.isTrue("6: throw new, line " + line(tree), isNew);
        if (isNew) {
            for (ExpressionTree text : ((NewClassTree) tree.getExpression()).getArguments()) {
                Check.isTrue("6: a written text, line " + line(tree), text instanceof LiteralTree);
            }
        }
        return super.visitThrow(tree, none);
    }

    private TreePath around(Class<? extends Tree> kind) {
        TreePath path = getCurrentPath();
        while (!kind.isInstance(path.getLeaf())) {
            path = path.getParentPath();
        }
        return path;
    }

    private Element element(TreePath path) {
        return trees.getElement(path);
    }

    private static boolean isOwn(Element method) {
        return OWN.contains(method.getEnclosingElement().getSimpleName().toString());
    }

    private long line(Tree tree) {
        return unit.getLineMap().getLineNumber(trees.getSourcePositions().getStartPosition(unit, tree));
    }

    private long lines(Tree tree) {
        long last = unit.getLineMap().getLineNumber(trees.getSourcePositions().getEndPosition(unit, tree));
        return last - line(tree) + 1;
    }
}
