import com.sun.source.tree.AssertTree;
import com.sun.source.tree.ClassTree;
import com.sun.source.tree.CompilationUnitTree;
import com.sun.source.tree.InstanceOfTree;
import com.sun.source.tree.LambdaExpressionTree;
import com.sun.source.tree.LineMap;
import com.sun.source.tree.MemberReferenceTree;
import com.sun.source.tree.MethodInvocationTree;
import com.sun.source.tree.MethodTree;
import com.sun.source.tree.NewArrayTree;
import com.sun.source.tree.NewClassTree;
import com.sun.source.tree.SynchronizedTree;
import com.sun.source.tree.ThrowTree;
import com.sun.source.tree.Tree;
import com.sun.source.tree.TryTree;
import com.sun.source.tree.VariableTree;
import com.sun.source.util.JavacTask;
import com.sun.source.util.TreePathScanner;
import com.sun.source.util.Trees;
import java.io.File;
import java.io.IOException;
import java.util.ArrayDeque;
import java.util.Deque;
import java.util.HashSet;
import java.util.LinkedHashMap;
import java.util.LinkedHashSet;
import java.util.Map;
import java.util.Set;
import java.util.TreeSet;
import javax.lang.model.element.Element;
import javax.lang.model.element.ExecutableElement;
import javax.lang.model.element.Modifier;
import javax.lang.model.element.TypeElement;
import javax.tools.JavaCompiler;
import javax.tools.StandardJavaFileManager;
import javax.tools.ToolProvider;

/** The class keeps to what a reader of its tree can see of ../shared/LANGUAGE.md; by rule number. */
final class LanguageTest extends TreePathScanner<Void, Void> {
    private static final Set<String> LIBRARY = Set.of("Math.abs", "Math.max", "Math.min", "Integer.bitCount",
        "System.arraycopy");
    private static final int LINES = 60;
    private static final int PARAMETERS = 7;
    private static final int CLASSES = 12;
    private static final int FIELDS = 20;
    private static final int CALLS_DEEP = 8;
    // they call one another on the brackets of a text, at most five in one another
    private static final Set<String> RECURSIVE = Set.of("Sets.readAny", "Sets.readAll", "Sets.readThing");

    private final Trees trees;
    private final CompilationUnitTree unit;
    private final Map<String, Set<String>> calls = new LinkedHashMap<>();
    private final Deque<String> within = new ArrayDeque<>();
    private final Set<String> open = new TreeSet<>();
    private final Set<String> closed = new TreeSet<>();
    private int classes = 0;

    private LanguageTest(Trees trees, CompilationUnitTree unit) {
        this.trees = trees;
        this.unit = unit;
    }

    public static void main(String[] args) throws IOException {
        JavaCompiler compiler = ToolProvider.getSystemJavaCompiler();
        try (StandardJavaFileManager files = compiler.getStandardFileManager(null, null, null)) {
            JavacTask task = (JavacTask) compiler.getTask(null, files, null, null, null,
                files.getJavaFileObjects(new File("src/main/java/OddsInCourt.java")));
            CompilationUnitTree unit = task.parse().iterator().next();
            task.analyze();
            LanguageTest test = new LanguageTest(Trees.instance(task), unit);
            test.scan(unit, null);
            test.end();
        }
        Due.end("LanguageTest");
    }

    private void end() {
        Due.is("rule 11: classes, " + classes, true, classes <= CLASSES);
        for (String name : closed) {
            Due.is("rule 1: a private method bears the name of the public " + name, false, open.contains(name));
        }
        for (String method : calls.keySet()) {
            int deep = deepest(method, new HashSet<>());
            Due.is("rule 11: calls from " + method + " go deep, " + deep, true, deep <= CALLS_DEEP);
        }
        Due.is("methods that were read", true, calls.size() > 100);
    }

    private void never(String rule, Tree tree) {
        long line = unit.getLineMap().getLineNumber(trees.getSourcePositions().getStartPosition(unit, tree));
        Due.is("rule " + rule + ", line " + line + ": " + tree, 0, 1);
    }

    @Override
    public Void visitClass(ClassTree tree, Void none) {
        classes++;
        boolean nested = getCurrentPath().getParentPath().getLeaf() instanceof ClassTree;
        if (nested && !tree.getModifiers().getFlags().contains(Modifier.STATIC)) {
            never("1: no static class", tree);
        }
        int fields = 0;
        for (Tree member : tree.getMembers()) {
            if (member instanceof VariableTree field) {
                boolean fixed = field.getModifiers().getFlags().contains(Modifier.STATIC);
                fields += fixed ? 0 : 1;
                if (fixed && !field.getModifiers().getFlags().contains(Modifier.FINAL)) {
                    never("5: static and not final", field);
                }
            } else if (member instanceof com.sun.source.tree.BlockTree) {
                never("5: an initialiser block", member);
            }
        }
        Due.is("rule 11: fields of " + tree.getSimpleName() + ", " + fields, true, fields <= FIELDS);
        return super.visitClass(tree, none);
    }

    @Override
    public Void visitMethod(MethodTree tree, Void none) {
        Element method = trees.getElement(getCurrentPath());
        String name = nameOf(method);
        LineMap map = unit.getLineMap();
        long first = map.getLineNumber(trees.getSourcePositions().getStartPosition(unit, tree));
        long last = map.getLineNumber(trees.getSourcePositions().getEndPosition(unit, tree));
        Due.is("rule 11: lines of " + name, true, last - first < LINES);
        Due.is("rule 11: parameters of " + name, true, tree.getParameters().size() <= PARAMETERS);
        boolean shown = tree.getModifiers().getFlags().contains(Modifier.PUBLIC);
        (shown ? open : closed).add(tree.getName().toString());
        if (tree.getName().contentEquals("<init>")) {
            open.remove("<init>");
        }
        calls.computeIfAbsent(name, key -> new LinkedHashSet<>());
        within.push(name);
        super.visitMethod(tree, none);
        within.pop();
        return null;
    }

    @Override
    public Void visitMethodInvocation(MethodInvocationTree tree, Void none) {
        Element called = trees.getElement(getCurrentPath());
        if (called instanceof ExecutableElement && !within.isEmpty()) {
            String name = nameOf(called);
            boolean own = called.getEnclosingElement().toString().startsWith("OddsInCourt");
            if (own) {
                calls.get(within.peek()).add(name);
            } else if (!LIBRARY.contains(name) && !name.equals("Object.<init>")) {
                never("4: " + name, tree);
            }
        }
        return super.visitMethodInvocation(tree, none);
    }

    @Override
    public Void visitNewClass(NewClassTree tree, Void none) {
        made(tree);
        return super.visitNewClass(tree, none);
    }

    @Override
    public Void visitNewArray(NewArrayTree tree, Void none) {
        made(tree);
        return super.visitNewArray(tree, none);
    }

    /** Objects are made in constructors alone; this is the project's own rule, for the room. */
    private void made(Tree tree) {
        boolean thrown = getCurrentPath().getParentPath().getLeaf() instanceof ThrowTree;
        if (!thrown && !within.isEmpty() && !within.peek().endsWith("<init>")) {
            never("12: made by a call", tree);
        }
    }

    @Override
    public Void visitThrow(ThrowTree tree, Void none) {
        String where = within.peek();
        if (!"OddsInCourt.of".equals(where) && !"OddsInCourt.row".equals(where)) {
            never("6: thrown where the document says nothing", tree);
        }
        return super.visitThrow(tree, none);
    }

    @Override
    public Void visitTry(TryTree tree, Void none) {
        never("6: try", tree);
        return super.visitTry(tree, none);
    }

    @Override
    public Void visitLambdaExpression(LambdaExpressionTree tree, Void none) {
        never("2: a lambda", tree);
        return super.visitLambdaExpression(tree, none);
    }

    @Override
    public Void visitMemberReference(MemberReferenceTree tree, Void none) {
        never("2: a method reference", tree);
        return super.visitMemberReference(tree, none);
    }

    @Override
    public Void visitSynchronized(SynchronizedTree tree, Void none) {
        never("6: synchronized", tree);
        return super.visitSynchronized(tree, none);
    }

    @Override
    public Void visitAssert(AssertTree tree, Void none) {
        never("6: assert", tree);
        return super.visitAssert(tree, none);
    }

    @Override
    public Void visitInstanceOf(InstanceOfTree tree, Void none) {
        never("6: instanceof, which nothing here needs", tree);
        return super.visitInstanceOf(tree, none);
    }

    private static String nameOf(Element method) {
        TypeElement owner = (TypeElement) method.getEnclosingElement();
        return owner.getSimpleName() + "." + method.getSimpleName();
    }

    /** How many calls stand open at once at most, this one among them, where nothing calls itself. */
    private int deepest(String method, Set<String> above) {
        if (!above.add(method)) {
            Due.is("rule 8: " + method + " calls itself", true, RECURSIVE.contains(method));
            return 0;
        }
        int deep = 0;
        for (String called : calls.getOrDefault(method, Set.of())) {
            deep = Math.max(deep, deepest(called, above));
        }
        above.remove(method);
        return deep + 1;
    }
}
