import com.sun.source.tree.ArrayTypeTree;
import com.sun.source.tree.BinaryTree;
import com.sun.source.tree.ClassTree;
import com.sun.source.tree.CompilationUnitTree;
import com.sun.source.tree.DoWhileLoopTree;
import com.sun.source.tree.ExpressionTree;
import com.sun.source.tree.ForLoopTree;
import com.sun.source.tree.MethodInvocationTree;
import com.sun.source.tree.MethodTree;
import com.sun.source.tree.NewArrayTree;
import com.sun.source.tree.NewClassTree;
import com.sun.source.tree.Tree;
import com.sun.source.tree.TypeCastTree;
import com.sun.source.tree.WhileLoopTree;
import com.sun.source.util.JavacTask;
import com.sun.source.util.TreePath;
import com.sun.source.util.TreePathScanner;
import com.sun.source.util.TreeScanner;
import com.sun.source.util.Trees;
import java.io.IOException;
import java.nio.file.Path;
import java.util.EnumSet;
import java.util.HashMap;
import java.util.LinkedHashSet;
import java.util.List;
import java.util.Map;
import java.util.Set;
import javax.lang.model.element.Element;
import javax.lang.model.element.ElementKind;
import javax.lang.model.element.ExecutableElement;
import javax.tools.JavaCompiler;
import javax.tools.StandardJavaFileManager;
import javax.tools.ToolProvider;

/** Rules of LANGUAGE.md that only the program's tree can show: calls, loops, what is made where. */
public final class FormTest {
    private static final Path SOURCE = Path.of("src/main/java/MaskBench.java");
    private static final int MOST_DEEP = 8;
    private static final Set<String> LIBRARY = Set.of("Math.floorMod", "Math.floorDiv", "Math.min",
        "Math.max", "Math.abs", "Arrays.fill", "System.arraycopy", "String.length", "String.charAt");
    private static final Set<Tree.Kind> NEVER = EnumSet.of(Tree.Kind.THROW, Tree.Kind.TRY,
        Tree.Kind.SYNCHRONIZED, Tree.Kind.ASSERT, Tree.Kind.LAMBDA_EXPRESSION,
        Tree.Kind.MEMBER_REFERENCE, Tree.Kind.INSTANCE_OF, Tree.Kind.RECORD, Tree.Kind.ENUM,
        Tree.Kind.INTERFACE, Tree.Kind.ENHANCED_FOR_LOOP);

    private final Trees trees;
    private final CompilationUnitTree unit;
    private final Map<Element, Set<Element>> calls = new HashMap<>();
    private final Map<Element, Integer> depths = new HashMap<>();

    private FormTest(Trees trees, CompilationUnitTree unit) {
        this.trees = trees;
        this.unit = unit;
    }

    public static void main(String[] args) throws IOException {
        JavaCompiler compiler = ToolProvider.getSystemJavaCompiler();
        if (compiler == null) {
            System.out.println("this java has no compiler in it: the form is not looked at");
            return;
        }
        try (StandardJavaFileManager files = compiler.getStandardFileManager(null, null, null)) {
            JavacTask task = (JavacTask) compiler.getTask(null, files, null, List.of("-proc:none"),
                null, files.getJavaFileObjects(SOURCE));
            CompilationUnitTree unit = task.parse().iterator().next();
            task.analyze();
            FormTest test = new FormTest(Trees.instance(task), unit);
            test.new Reader().scan(unit, null);
            test.lookAtDepths();
        }
        Bench.end();
    }

    private void wrong(Tree tree, String what) {
        long at = trees.getSourcePositions().getStartPosition(unit, tree);
        Bench.fail("line " + unit.getLineMap().getLineNumber(at) + ": " + what);
    }

    /** Rules 8 and 11: no call comes back to itself, and none goes more than eight deep. */
    private void lookAtDepths() {
        int deepest = 0;
        for (Element method : calls.keySet()) {
            deepest = Math.max(deepest, depth(method, new LinkedHashSet<>()));
        }
        System.out.println("calls go " + deepest + " deep at most");
        Bench.same(deepest > 1 && deepest <= MOST_DEEP, true, "calls go at most eight deep");
    }

    private int depth(Element method, Set<Element> open) {
        Integer known = depths.get(method);
        if (known != null) {
            return known;
        }
        if (!open.add(method)) {
            Bench.fail("calls come back to themselves: " + open);
            return 0;
        }
        int below = 0;
        for (Element called : calls.getOrDefault(method, Set.of())) {
            below = Math.max(below, depth(called, open));
        }
        open.remove(method);
        depths.put(method, below + 1);
        return below + 1;
    }

    private final class Reader extends TreePathScanner<Void, Void> {
        @Override
        public Void scan(Tree tree, Void none) {
            if (tree != null && NEVER.contains(tree.getKind())) {
                wrong(tree, "the program has no " + tree.getKind());
            }
            return super.scan(tree, none);
        }

        private MethodTree method() {
            for (TreePath p = getCurrentPath(); p != null; p = p.getParentPath()) {
                if (p.getLeaf() instanceof MethodTree m) {
                    return m;
                }
            }
            return null;
        }

        private void note(ExecutableElement called) {
            MethodTree from = method();
            if (from != null) {
                Element caller = trees.getElement(trees.getPath(unit, from));
                calls.computeIfAbsent(caller, k -> new LinkedHashSet<>()).add(called);
            }
        }

        @Override
        public Void visitMethodInvocation(MethodInvocationTree tree, Void none) {
            Element called = trees.getElement(getCurrentPath());
            if (called instanceof ExecutableElement e && e.getKind() == ElementKind.METHOD) {
                note(e);
                String name = e.getEnclosingElement().getSimpleName() + "." + e.getSimpleName();
                boolean own = e.getEnclosingElement().toString().startsWith("MaskBench");
                if (!own && !LIBRARY.contains(name)) {
                    wrong(tree, "the library's " + name);
                }
            }
            return super.visitMethodInvocation(tree, none);
        }

        /** Rule 12, and the one room: what is made is made in a constructor, and used again. */
        private void makes(Tree tree) {
            MethodTree m = method();
            if (m != null && m.getReturnType() != null) {
                wrong(tree, m.getName() + "() makes an object");
            }
        }

        @Override
        public Void visitNewClass(NewClassTree tree, Void none) {
            makes(tree);
            if (tree.getClassBody() != null) {
                wrong(tree, "a class without a name");
            }
            return super.visitNewClass(tree, none);
        }

        @Override
        public Void visitNewArray(NewArrayTree tree, Void none) {
            makes(tree);
            return super.visitNewArray(tree, none);
        }

        @Override
        public Void visitArrayType(ArrayTypeTree tree, Void none) {
            if (tree.getType() instanceof ArrayTypeTree) {
                wrong(tree, "an array of arrays");
            }
            return super.visitArrayType(tree, none);
        }

        /** Rule 6: a cast is one of numbers. */
        @Override
        public Void visitTypeCast(TypeCastTree tree, Void none) {
            if (tree.getType().getKind() != Tree.Kind.PRIMITIVE_TYPE) {
                wrong(tree, "a cast to " + tree.getType());
            }
            return super.visitTypeCast(tree, none);
        }

        /** Rule 10: texts are not joined by +. */
        @Override
        public Void visitBinary(BinaryTree tree, Void none) {
            if (trees.getTypeMirror(getCurrentPath()).toString().endsWith("String")) {
                wrong(tree, "texts are joined by +");
            }
            return super.visitBinary(tree, none);
        }

        @Override
        public Void visitClass(ClassTree tree, Void none) {
            if (method() != null) {
                wrong(tree, "a class in a method");
            }
            return super.visitClass(tree, none);
        }

        @Override
        public Void visitForLoop(ForLoopTree tree, Void none) {
            lookAtEnd(tree, tree.getCondition());
            return super.visitForLoop(tree, none);
        }

        @Override
        public Void visitWhileLoop(WhileLoopTree tree, Void none) {
            lookAtEnd(tree, tree.getCondition());
            return super.visitWhileLoop(tree, none);
        }

        @Override
        public Void visitDoWhileLoop(DoWhileLoopTree tree, Void none) {
            lookAtEnd(tree, tree.getCondition());
            return super.visitDoWhileLoop(tree, none);
        }
    }

    /** Rule 9: a loop goes on only as long as a counter is on the right side of a bound. */
    private void lookAtEnd(Tree loop, ExpressionTree condition) {
        boolean[] bounded = new boolean[1];
        new TreeScanner<Void, Void>() {
            @Override
            public Void visitBinary(BinaryTree tree, Void none) {
                switch (tree.getKind()) {
                    case LESS_THAN, LESS_THAN_EQUAL, GREATER_THAN, GREATER_THAN_EQUAL ->
                        bounded[0] = true;
                    case CONDITIONAL_OR -> wrong(tree, "a loop that goes on by one of two tests");
                    default -> { }
                }
                return super.visitBinary(tree, none);
            }
        }.scan(condition, null);
        if (!bounded[0]) {
            wrong(loop, "a loop without a counter against a bound");
        }
    }
}
