import com.sun.source.tree.CaseTree;
import com.sun.source.tree.ClassTree;
import com.sun.source.tree.CompilationUnitTree;
import com.sun.source.tree.DoWhileLoopTree;
import com.sun.source.tree.ForLoopTree;
import com.sun.source.tree.InstanceOfTree;
import com.sun.source.tree.LambdaExpressionTree;
import com.sun.source.tree.MemberReferenceTree;
import com.sun.source.tree.MethodInvocationTree;
import com.sun.source.tree.MethodTree;
import com.sun.source.tree.NewClassTree;
import com.sun.source.tree.ThrowTree;
import com.sun.source.tree.TryTree;
import com.sun.source.tree.TypeCastTree;
import com.sun.source.tree.VariableTree;
import com.sun.source.tree.WhileLoopTree;
import com.sun.source.util.JavacTask;
import com.sun.source.util.TreePathScanner;
import com.sun.source.util.Trees;
import java.nio.file.Path;
import java.util.List;
import java.util.Map;
import java.util.Set;
import java.util.TreeMap;
import java.util.TreeSet;
import javax.lang.model.element.Element;
import javax.lang.model.element.Modifier;
import javax.lang.model.type.TypeKind;
import javax.lang.model.type.TypeMirror;
import javax.tools.JavaCompiler;
import javax.tools.StandardJavaFileManager;
import javax.tools.ToolProvider;

/** Rules of LANGUAGE.md that show in the compiler's own tree of the source: what is called, how deep, of which types. */
public final class LanguageTreeTests extends TreePathScanner<Void, Void> {
    private static final Path SOURCE = Path.of("src/main/java/LastCallersWord.java");
    private static final int MOST_DEEP = 8, MOST_PARAMETERS = 7, MOST_CLASSES = 12, MOST_FIELDS = 20;

    /** What the class may call of the library: less than rule 4 allows, just what it needs. */
    private static final Set<String> LIBRARY = Set.of("java.lang.Object.Object()", "java.lang.String.length()",
        "java.lang.String.charAt(int)", "java.lang.System.arraycopy(java.lang.Object,int,java.lang.Object,int,int)",
        "java.lang.Integer.bitCount(int)", "java.lang.Integer.numberOfTrailingZeros(int)", "java.lang.Math.max(int,int)");
    private static final Set<String> TYPES = Set.of("int", "long", "char", "boolean", "int[]", "char[]", "java.lang.String");

    private final Trees trees;
    private final Map<String, Set<String>> calls = new TreeMap<>();
    private final Map<String, Integer> depths = new TreeMap<>();
    private String within = "";
    private int classes = 0;
    private int wrong = 0;

    private LanguageTreeTests(Trees trees) {
        this.trees = trees;
    }

    public static void main(String[] args) throws Exception {
        JavaCompiler compiler = ToolProvider.getSystemJavaCompiler();
        try (StandardJavaFileManager files = compiler.getStandardFileManager(null, null, null)) {
            JavacTask task = (JavacTask) compiler.getTask(null, files, null, List.of("-proc:none"), null,
                files.getJavaFileObjects(SOURCE));
            Iterable<? extends CompilationUnitTree> units = task.parse();
            task.analyze();
            LanguageTreeTests look = new LanguageTreeTests(Trees.instance(task));
            look.scan(units, null);
            look.depth();
            System.out.println("LanguageTreeTests: " + look.calls.size() + " methods, " + look.wrong + " rules broken");
            if (look.wrong != 0) {
                System.exit(1);
            }
        }
    }

    private void hold(boolean rule, String what) {
        if (!rule) {
            wrong++;
            System.out.println("LANGUAGE: " + what);
        }
    }

    private Element here() {
        return trees.getElement(getCurrentPath());
    }

    private static String nameOf(Element method) {
        return method.getEnclosingElement() + "." + method;
    }

    @Override
    public Void visitClass(ClassTree tree, Void none) {
        classes++;
        hold(classes <= MOST_CLASSES, "rule 11: more classes than " + MOST_CLASSES);
        Element type = here();
        hold(type.getEnclosingElement().getKind().name().equals("PACKAGE") || type.getModifiers().contains(Modifier.STATIC),
            "rule 2: " + type + " is not static");
        long fields = tree.getMembers().stream()
            .filter(member -> member instanceof VariableTree field && !field.getModifiers().getFlags().contains(Modifier.STATIC))
            .count();
        hold(fields <= MOST_FIELDS, "rule 11: " + type + " has many fields");
        String outer = within;
        // What stands outside of all methods is run by the constructor.
        within = type + ".";
        super.visitClass(tree, none);
        within = outer;
        return null;
    }

    @Override
    public Void visitMethod(MethodTree tree, Void none) {
        String outer = within;
        within = nameOf(here());
        calls.computeIfAbsent(within, key -> new TreeSet<>());
        hold(tree.getParameters().size() <= MOST_PARAMETERS, "rule 11: parameters of " + within);
        super.visitMethod(tree, none);
        within = outer;
        return null;
    }

    private void called(Element method) {
        String name = nameOf(method);
        boolean own = name.startsWith("LastCallersWord");
        hold(own || LIBRARY.contains(name), "rule 4: " + within + " calls " + name);
        if (own) {
            calls.computeIfAbsent(within, key -> new TreeSet<>()).add(name);
        }
    }

    @Override
    public Void visitMethodInvocation(MethodInvocationTree tree, Void none) {
        called(here());
        return super.visitMethodInvocation(tree, none);
    }

    @Override
    public Void visitNewClass(NewClassTree tree, Void none) {
        hold(tree.getClassBody() == null, "rule 2: an anonymous class in " + within);
        called(here());
        return super.visitNewClass(tree, none);
    }

    @Override
    public Void visitVariable(VariableTree tree, Void none) {
        TypeMirror type = here().asType();
        String name = type.toString();
        hold(TYPES.contains(name) || name.startsWith("LastCallersWord"), "rule 3: " + tree + " is of type " + name);
        return super.visitVariable(tree, none);
    }

    @Override
    public Void visitTypeCast(TypeCastTree tree, Void none) {
        TypeKind kind = trees.getTypeMirror(getCurrentPath()).getKind();
        hold(kind.isPrimitive(), "rule 6: a cast that could fail: " + tree);
        return super.visitTypeCast(tree, none);
    }

    @Override
    public Void visitForLoop(ForLoopTree tree, Void none) {
        hold(countsUp(tree), "rule 9: a loop whose end can't be seen: " + tree.getCondition());
        return super.visitForLoop(tree, none);
    }

    /** The loop's own counter goes up by one each time, and is held against a bound each time. */
    private static boolean countsUp(ForLoopTree tree) {
        if (tree.getInitializer().size() != 1 || tree.getUpdate().size() != 1
            || !(tree.getInitializer().get(0) instanceof VariableTree counter)) {
            return false;
        }
        String name = counter.getName().toString();
        String condition = String.valueOf(tree.getCondition());
        return tree.getUpdate().get(0).getExpression().toString().equals(name + "++")
            && (condition.startsWith(name + " < ") || condition.startsWith(name + " <= ")) && !condition.contains("||");
    }

    @Override
    public Void visitWhileLoop(WhileLoopTree tree, Void none) {
        hold(false, "rule 9: while without a counter of its own: " + tree.getCondition());
        return super.visitWhileLoop(tree, none);
    }

    @Override
    public Void visitDoWhileLoop(DoWhileLoopTree tree, Void none) {
        hold(false, "rule 9: do without a counter of its own: " + tree.getCondition());
        return super.visitDoWhileLoop(tree, none);
    }

    @Override
    public Void visitThrow(ThrowTree tree, Void none) {
        hold(false, "rule 6: throw");
        return super.visitThrow(tree, none);
    }

    @Override
    public Void visitTry(TryTree tree, Void none) {
        hold(false, "rule 6: try");
        return super.visitTry(tree, none);
    }

    @Override
    public Void visitLambdaExpression(LambdaExpressionTree tree, Void none) {
        hold(false, "rule 2: a lambda");
        return super.visitLambdaExpression(tree, none);
    }

    @Override
    public Void visitMemberReference(MemberReferenceTree tree, Void none) {
        hold(false, "rule 2: a method reference");
        return super.visitMemberReference(tree, none);
    }

    @Override
    public Void visitInstanceOf(InstanceOfTree tree, Void none) {
        hold(false, "the class needs no instanceof");
        return super.visitInstanceOf(tree, none);
    }

    @Override
    public Void visitCase(CaseTree tree, Void none) {
        hold(tree.getCaseKind() == CaseTree.CaseKind.STATEMENT, "rule 10: a case with an arrow");
        return super.visitCase(tree, none);
    }

    private void depth() {
        for (String method : calls.keySet()) {
            int deep = depthOf(method, new TreeSet<>());
            hold(deep <= MOST_DEEP, "rule 11: " + method + " goes " + deep + " deep");
        }
    }

    private int depthOf(String method, Set<String> open) {
        Integer known = depths.get(method);
        if (known != null) {
            return known;
        }
        if (!open.add(method)) {
            hold(false, "rule 8: " + method + " calls itself without a guard that this test knows");
            return 0;
        }
        int deepest = 0;
        for (String next : calls.getOrDefault(method, Set.of())) {
            deepest = Math.max(deepest, depthOf(next, open));
        }
        open.remove(method);
        depths.put(method, deepest + 1);
        return deepest + 1;
    }
}
