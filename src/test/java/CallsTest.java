import com.sun.source.tree.BinaryTree;
import com.sun.source.tree.ClassTree;
import com.sun.source.tree.CompilationUnitTree;
import com.sun.source.tree.ExpressionTree;
import com.sun.source.tree.MethodInvocationTree;
import com.sun.source.tree.MethodTree;
import com.sun.source.tree.NewClassTree;
import com.sun.source.tree.Tree;
import com.sun.source.util.JavacTask;
import com.sun.source.util.TreePath;
import com.sun.source.util.TreePathScanner;
import com.sun.source.util.Trees;
import java.io.IOException;
import java.nio.file.Path;
import java.util.EnumSet;
import java.util.List;
import java.util.Map;
import java.util.Set;
import java.util.TreeMap;
import java.util.TreeSet;
import javax.lang.model.element.Element;
import javax.lang.model.element.Modifier;
import javax.tools.JavaCompiler;
import javax.tools.StandardJavaFileManager;
import javax.tools.ToolProvider;

/** The rules of LANGUAGE.md on what the class may call, and how deep, as javac sees it. Run from the project's root. */
final class CallsTest {
    private static final int MOST_DEEP = 8;
    private static final Set<Tree.Kind> FORBIDDEN = EnumSet.of(Tree.Kind.THROW, Tree.Kind.TRY, Tree.Kind.CATCH,
        Tree.Kind.SYNCHRONIZED, Tree.Kind.ASSERT, Tree.Kind.LAMBDA_EXPRESSION, Tree.Kind.MEMBER_REFERENCE);
    private static final Map<String, String> LIBRARY = Map.of(
        "java.lang.String", "length|charAt|isEmpty|equals|indexOf|substring|toCharArray|<init>",
        "java.lang.StringBuilder", "<init>|append|charAt|setCharAt|setLength|deleteCharAt|reverse|length|toString",
        "java.util.ArrayList", "<init>|add|get|set|remove|size|isEmpty|clear",
        "java.util.List", "add|get|set|remove|size|isEmpty|clear|of",
        "java.lang.Math", "(?!.*Exact$).*",
        "java.lang.Integer", "(?!.*Exact$).*",
        "java.lang.Long", "(?!.*Exact$).*",
        "java.lang.System", "arraycopy",
        "java.util.Arrays", "copyOf|copyOfRange|fill",
        "java.lang.Object", "<init>");
    private static final Due due = new Due();

    public static void main(String[] args) throws IOException {
        Reader reader = new Reader();
        JavaCompiler compiler = ToolProvider.getSystemJavaCompiler();
        try (StandardJavaFileManager files = compiler.getStandardFileManager(null, null, null)) {
            JavacTask task = (JavacTask) compiler.getTask(null, files, null, List.of("-proc:none"), null,
                files.getJavaFileObjects(Path.of("src/main/java/WheelTables.java")));
            Iterable<? extends CompilationUnitTree> units = task.parse();
            task.analyze();
            reader.trees = Trees.instance(task);
            reader.scan(units, null);
        }
        due.is("there are calls", reader.calls.size() > 100, true);
        for (String own : reader.open) {
            int deep = depth(reader.calls, own, new TreeSet<>());
            due.is(own + " goes " + deep + " deep", deep <= MOST_DEEP, true);
        }
        for (Map.Entry<String, Set<String>> method : reader.calls.entrySet()) {
            boolean recurs = method.getValue().contains(method.getKey());
            due.is(method.getKey() + " calls itself only if it is private and static",
                !recurs || reader.privateStatic.contains(method.getKey()), true);
        }
        due.end();
    }

    /** The longest way of calls from a method on, itself and the library's counted; a call of itself is not. */
    private static int depth(Map<String, Set<String>> calls, String method, Set<String> above) {
        Set<String> within = new TreeSet<>(above);
        within.add(method);
        int deepest = 0;
        for (String called : calls.getOrDefault(method, Set.of())) {
            if (called.equals(method)) {
                continue;
            }
            boolean circle = within.contains(called);
            due.is(called + " is called by " + method + " and calls it", circle, false);
            deepest = circle ? deepest : Math.max(deepest, depth(calls, called, within));
        }
        return deepest + 1;
    }

    /** Notes who calls whom, and asks of each tree if it may stand there. */
    private static final class Reader extends TreePathScanner<Void, Void> {
        private final Map<String, Set<String>> calls = new TreeMap<>();
        private final Set<String> open = new TreeSet<>();
        private final Set<String> privateStatic = new TreeSet<>();
        private Trees trees;
        private String within = "none";

        @Override
        public Void scan(Tree tree, Void nothing) {
            if (tree != null) {
                due.is("no " + tree.getKind() + ": " + tree, FORBIDDEN.contains(tree.getKind()), false);
            }
            return super.scan(tree, nothing);
        }

        @Override
        public Void visitClass(ClassTree tree, Void nothing) {
            due.is("a class with a name", tree.getSimpleName().length() > 0, true);
            return super.visitClass(tree, nothing);
        }

        @Override
        public Void visitMethod(MethodTree tree, Void nothing) {
            Element method = trees.getElement(getCurrentPath());
            String outer = within;
            within = nameOf(method);
            calls.putIfAbsent(within, new TreeSet<>());
            Set<Modifier> modifiers = method.getModifiers();
            if (modifiers.contains(Modifier.PUBLIC)) {
                open.add(within);
            }
            if (modifiers.containsAll(Set.of(Modifier.PRIVATE, Modifier.STATIC))) {
                privateStatic.add(within);
            }
            super.visitMethod(tree, nothing);
            within = outer;
            return null;
        }

        @Override
        public Void visitMethodInvocation(MethodInvocationTree tree, Void nothing) {
            note(trees.getElement(new TreePath(getCurrentPath(), tree.getMethodSelect())), tree);
            return super.visitMethodInvocation(tree, nothing);
        }

        @Override
        public Void visitNewClass(NewClassTree tree, Void nothing) {
            note(trees.getElement(getCurrentPath()), tree);
            return super.visitNewClass(tree, nothing);
        }

        @Override
        public Void visitBinary(BinaryTree tree, Void nothing) {
            boolean text = isText(tree.getLeftOperand()) || isText(tree.getRightOperand());
            due.is("no + or == of texts: " + tree, text, false);
            return super.visitBinary(tree, nothing);
        }

        private boolean isText(ExpressionTree tree) {
            String type = String.valueOf(trees.getTypeMirror(new TreePath(getCurrentPath(), tree)));
            return type.equals("java.lang.String") || type.equals("java.lang.Integer");
        }

        private void note(Element called, Tree tree) {
            due.is("known: " + tree, called != null, true);
            if (called == null) {
                return;
            }
            String owner = called.getEnclosingElement().toString();
            if (!owner.startsWith("WheelTables") && !owner.equals("Array")) {
                String good = LIBRARY.getOrDefault(owner, "");
                due.is("the library lets " + tree + " be called", called.getSimpleName().toString().matches(good), true);
            }
            calls.computeIfAbsent(within, w -> new TreeSet<>()).add(nameOf(called));
        }

        private static String nameOf(Element method) {
            return method.getEnclosingElement() + "." + method;
        }
    }
}
