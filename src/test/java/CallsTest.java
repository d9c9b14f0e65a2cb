import com.sun.source.tree.CompilationUnitTree;
import com.sun.source.tree.ExpressionTree;
import com.sun.source.tree.ForLoopTree;
import com.sun.source.tree.MemberSelectTree;
import com.sun.source.tree.MethodInvocationTree;
import com.sun.source.tree.MethodTree;
import com.sun.source.tree.NewArrayTree;
import com.sun.source.tree.NewClassTree;
import com.sun.source.tree.Tree;
import com.sun.source.util.JavacTask;
import com.sun.source.util.TreePath;
import com.sun.source.util.TreePathScanner;
import com.sun.source.util.Trees;
import java.nio.file.Path;
import java.util.ArrayList;
import java.util.EnumSet;
import java.util.LinkedHashMap;
import java.util.LinkedHashSet;
import java.util.List;
import java.util.Map;
import java.util.Set;
import javax.lang.model.element.Element;
import javax.lang.model.element.ElementKind;
import javax.lang.model.element.ExecutableElement;
import javax.lang.model.element.Modifier;
import javax.lang.model.element.TypeElement;
import javax.lang.model.util.Elements;
import javax.tools.JavaCompiler;
import javax.tools.StandardJavaFileManager;
import javax.tools.ToolProvider;

/** The rules of ../shared/LANGUAGE.md that the compiler's tree shows: what the class is made of, what it calls, how deep. */
public final class CallsTest {
    private static final Path SOURCE = Path.of("src/main/java/PaidByCoast.java");
    private static final int DEEPEST = 8;
    private static final Set<String> LIBRARY = Set.of("java.lang.Integer.bitCount(int)", "java.lang.Long.bitCount(long)",
        "java.lang.Math.abs(int)", "java.lang.Math.max(int,int)", "java.lang.Math.min(int,int)", "java.lang.Object.Object()");
    private static final Set<Tree.Kind> FORBIDDEN = EnumSet.of(Tree.Kind.THROW, Tree.Kind.TRY, Tree.Kind.CATCH,
        Tree.Kind.SYNCHRONIZED, Tree.Kind.ASSERT, Tree.Kind.LAMBDA_EXPRESSION, Tree.Kind.MEMBER_REFERENCE,
        Tree.Kind.ANNOTATION, Tree.Kind.ANNOTATION_TYPE, Tree.Kind.ERRONEOUS);
    private static final Due DUE = new Due("CallsTest");

    private final Trees trees;
    private final Elements elements;
    private final Map<ExecutableElement, Set<ExecutableElement>> calls = new LinkedHashMap<>();
    /** Calls of super: what overrides the called method can't be meant. */
    private final Map<ExecutableElement, Set<ExecutableElement>> superCalls = new LinkedHashMap<>();

    private CallsTest(JavacTask task) {
        trees = Trees.instance(task);
        elements = task.getElements();
    }

    public static void main(String[] args) throws Exception {
        JavaCompiler compiler = ToolProvider.getSystemJavaCompiler();
        try (StandardJavaFileManager files = compiler.getStandardFileManager(null, null, null)) {
            JavacTask task = (JavacTask) compiler.getTask(null, files, null, List.of("--release", "17"), null,
                files.getJavaFileObjects(SOURCE));
            CallsTest test = new CallsTest(task);
            Iterable<? extends CompilationUnitTree> units = task.parse();
            task.analyze();
            for (CompilationUnitTree unit : units) {
                test.new Scanner().scan(new TreePath(unit), null);
            }
            test.depths();
        }
        DUE.end();
    }

    private final class Scanner extends TreePathScanner<Void, ExecutableElement> {
        @Override
        public Void scan(Tree tree, ExecutableElement inside) {
            if (tree != null) {
                DUE.part("rules 2, 4, 6");
                DUE.that("no " + tree.getKind() + ": " + tree, !FORBIDDEN.contains(tree.getKind()));
            }
            return super.scan(tree, inside);
        }

        @Override
        public Void visitMethod(MethodTree method, ExecutableElement inside) {
            ExecutableElement element = (ExecutableElement) trees.getElement(getCurrentPath());
            calls.put(element, new LinkedHashSet<>());
            superCalls.put(element, new LinkedHashSet<>());
            return super.visitMethod(method, element);
        }

        @Override
        public Void visitMethodInvocation(MethodInvocationTree call, ExecutableElement inside) {
            ExpressionTree select = call.getMethodSelect();
            ExecutableElement called = (ExecutableElement) trees.getElement(new TreePath(getCurrentPath(), select));
            boolean bySuper = select instanceof MemberSelectTree
                && ((MemberSelectTree) select).getExpression().toString().equals("super");
            called(called, inside, bySuper || called.getKind() == ElementKind.CONSTRUCTOR);
            return super.visitMethodInvocation(call, inside);
        }

        @Override
        public Void visitNewClass(NewClassTree made, ExecutableElement inside) {
            DUE.part("rule 2");
            DUE.that("no class without a name: " + made, made.getClassBody() == null);
            ExecutableElement constructor = (ExecutableElement) trees.getElement(getCurrentPath());
            if (inside != null) {
                called(constructor, inside, true);
            }
            return super.visitNewClass(made, inside);
        }

        @Override
        public Void visitNewArray(NewArrayTree made, ExecutableElement inside) {
            DUE.part("make rows in constructors");
            DUE.that("no method makes a row: " + made, inside == null || inside.getKind() == ElementKind.CONSTRUCTOR);
            return super.visitNewArray(made, inside);
        }

        @Override
        public Void visitForLoop(ForLoopTree loop, ExecutableElement inside) {
            DUE.part("rule 9");
            DUE.that("a counter and its end: " + loop, loop.getCondition() != null && !loop.getUpdate().isEmpty());
            return super.visitForLoop(loop, inside);
        }

        private void called(ExecutableElement called, ExecutableElement inside, boolean isThatOne) {
            DUE.part("rules 4, 12");
            Element owner = called.getEnclosingElement();
            if (!owner.toString().startsWith("PaidByCoast")) {
                DUE.that(owner + "." + called + " is allowed", LIBRARY.contains(owner + "." + called));
            }
            DUE.that("a field's first value calls no method: " + called, inside != null);
            if (inside != null) {
                (isThatOne ? superCalls : calls).get(inside).add(called);
            }
        }
    }

    // ---- how deep calls go

    private void depths() {
        DUE.part("rules 8, 11");
        for (ExecutableElement method : calls.keySet()) {
            if (method.getModifiers().contains(Modifier.PUBLIC)) {
                List<ExecutableElement> deepest = deepestFrom(method, new ArrayList<>());
                DUE.that("eight calls deep at most: " + deepest, deepest.size() <= DEEPEST);
            }
        }
    }

    private List<ExecutableElement> deepestFrom(ExecutableElement method, List<ExecutableElement> open) {
        DUE.that("no recursion: " + method + " in " + open, !open.contains(method));
        List<ExecutableElement> path = new ArrayList<>(open);
        path.add(method);
        if (open.contains(method)) {
            return path;
        }
        List<ExecutableElement> deepest = path;
        for (ExecutableElement called : calledBy(method)) {
            List<ExecutableElement> deeper = deepestFrom(called, path);
            deepest = deeper.size() > deepest.size() ? deeper : deepest;
        }
        return deepest;
    }

    private Set<ExecutableElement> calledBy(ExecutableElement method) {
        Set<ExecutableElement> all = new LinkedHashSet<>(superCalls.getOrDefault(method, Set.of()));
        for (ExecutableElement called : calls.getOrDefault(method, Set.of())) {
            all.add(called);
            for (ExecutableElement other : calls.keySet()) {
                if (elements.overrides(other, called, (TypeElement) other.getEnclosingElement())) {
                    all.add(other);
                }
            }
        }
        return all;
    }
}
