import com.sun.source.tree.BinaryTree;
import com.sun.source.tree.ClassTree;
import com.sun.source.tree.CompilationUnitTree;
import com.sun.source.tree.CompoundAssignmentTree;
import com.sun.source.tree.ExpressionTree;
import com.sun.source.tree.MethodInvocationTree;
import com.sun.source.tree.MethodTree;
import com.sun.source.tree.NewArrayTree;
import com.sun.source.tree.NewClassTree;
import com.sun.source.tree.Tree;
import com.sun.source.tree.TypeCastTree;
import com.sun.source.tree.VariableTree;
import com.sun.source.util.JavacTask;
import com.sun.source.util.TreePath;
import com.sun.source.util.TreePathScanner;
import com.sun.source.util.Trees;
import java.io.File;
import java.util.HashMap;
import java.util.HashSet;
import java.util.List;
import java.util.Map;
import java.util.Set;
import javax.lang.model.element.Element;
import javax.lang.model.element.Modifier;
import javax.lang.model.element.VariableElement;
import javax.tools.JavaCompiler;
import javax.tools.StandardJavaFileManager;
import javax.tools.ToolProvider;

/** The rules of LANGUAGE.md that are seen in the compiler's tree of the source; run from the project's root. */
public final class TreeRulesTest extends TreePathScanner<Void, Void> {
    /** Texts and lists are in the rules, too, but the class has no use for them. */
    private static final Set<String> LIBRARY = Set.of("java.lang.Math", "java.lang.Integer", "java.lang.Long");
    private static final Set<String> LISTED = Set.of(
            "java.lang.System.arraycopy", "java.util.Arrays.copyOf", "java.util.Arrays.copyOfRange",
            "java.util.Arrays.fill", "java.lang.Object.<init>");
    private static final int MOST_DEPTH = 8;
    private static final int MOST_FIELDS = 20;

    private final Trees trees;
    private final Map<Element, Set<Element>> calls = new HashMap<>();
    private Element method;

    private TreeRulesTest(Trees trees) {
        this.trees = trees;
    }

    public static void main(String[] args) throws Exception {
        JavaCompiler compiler = ToolProvider.getSystemJavaCompiler();
        StandardJavaFileManager files = compiler.getStandardFileManager(null, null, null);
        JavacTask task = (JavacTask) compiler.getTask(null, files, null, List.of("--release", "17"), null,
                files.getJavaFileObjects(new File("src/main/java/FibredSpaces.java")));
        Iterable<? extends CompilationUnitTree> units = task.parse();
        task.analyze();
        TreeRulesTest rules = new TreeRulesTest(Trees.instance(task));
        rules.scan(units, null);
        rules.callsAreShallow();
        Due.end();
    }

    private Element here() {
        return trees.getElement(getCurrentPath());
    }

    @Override
    public Void visitClass(ClassTree tree, Void none) {
        long fields = tree.getMembers().stream().filter(t -> t instanceof VariableTree v
                && !v.getModifiers().getFlags().contains(Modifier.STATIC)).count();
        Due.is(fields + " fields of " + tree.getSimpleName() + " are some twenty", fields <= MOST_FIELDS ? 1 : 0, 1);
        return super.visitClass(tree, none);
    }

    @Override
    public Void visitMethod(MethodTree tree, Void none) {
        method = here();
        calls.put(method, new HashSet<>());
        super.visitMethod(tree, none);
        method = null;
        return null;
    }

    @Override
    public Void visitMethodInvocation(MethodInvocationTree tree, Void none) {
        Element called = here();
        String owner = called.getEnclosingElement().toString();
        if (method != null) {
            calls.get(method).add(called);
        }
        if (!owner.startsWith("FibredSpaces")) {
            String name = owner + "." + called.getSimpleName();
            boolean listed = LISTED.contains(name) || LIBRARY.contains(owner) && !name.endsWith("Exact");
            Due.is(name + " is of the listed library", listed ? 1 : 0, 1);
        }
        return super.visitMethodInvocation(tree, none);
    }

    /** What a run makes is counted, so that the class makes all it needs when an object is made. */
    private void madeHere(Tree tree) {
        boolean early = method == null || method.getSimpleName().contentEquals("<init>");
        Due.is(tree + " is made in a constructor", early ? 1 : 0, 1);
    }

    @Override
    public Void visitNewClass(NewClassTree tree, Void none) {
        madeHere(tree);
        return super.visitNewClass(tree, none);
    }

    @Override
    public Void visitNewArray(NewArrayTree tree, Void none) {
        madeHere(tree);
        return super.visitNewArray(tree, none);
    }

    @Override
    public Void visitTypeCast(TypeCastTree tree, Void none) {
        Due.is(tree + " is a cast of numbers", tree.getType().getKind() == Tree.Kind.PRIMITIVE_TYPE ? 1 : 0, 1);
        return super.visitTypeCast(tree, none);
    }

    @Override
    public Void visitBinary(BinaryTree tree, Void none) {
        if (tree.getKind() == Tree.Kind.DIVIDE || tree.getKind() == Tree.Kind.REMAINDER) {
            divides(tree, tree.getRightOperand());
        }
        return super.visitBinary(tree, none);
    }

    @Override
    public Void visitCompoundAssignment(CompoundAssignmentTree tree, Void none) {
        Tree.Kind kind = tree.getKind();
        boolean divides = kind == Tree.Kind.DIVIDE_ASSIGNMENT || kind == Tree.Kind.REMAINDER_ASSIGNMENT;
        Due.is(tree + " has no divisor of its own", divides ? 1 : 0, 0);
        return super.visitCompoundAssignment(tree, none);
    }

    /** A divisor is a constant, or stands in Numbers, where each is looked at first. */
    private void divides(Tree tree, ExpressionTree divisor) {
        Element named = trees.getElement(new TreePath(getCurrentPath(), divisor));
        boolean constant = named instanceof VariableElement v && v.getConstantValue() != null
                && ((Number) v.getConstantValue()).longValue() != 0;
        boolean looked = method != null && method.getEnclosingElement().getSimpleName().contentEquals("Numbers");
        Due.is(tree + " has a divisor that was looked at", constant || looked ? 1 : 0, 1);
    }

    private void callsAreShallow() {
        for (Element m : calls.keySet()) {
            int depth = depth(m, 1);
            Due.is(m + " opens " + depth + " calls", depth <= MOST_DEPTH ? 1 : 0, 1);
        }
    }

    /** How many calls are open at most, this one and the library's among them; recursion has no end here. */
    private int depth(Element m, int open) {
        int deepest = 0;
        for (Element called : calls.getOrDefault(m, Set.of())) {
            boolean nothing = called.toString().equals("Object()");
            if (!nothing && open <= MOST_DEPTH) {
                deepest = Math.max(deepest, depth(called, open + 1));
            }
        }
        return 1 + deepest;
    }
}
