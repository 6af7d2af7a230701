import com.sun.source.tree.BinaryTree;
import com.sun.source.tree.ClassTree;
import com.sun.source.tree.CompilationUnitTree;
import com.sun.source.tree.DoWhileLoopTree;
import com.sun.source.tree.EnhancedForLoopTree;
import com.sun.source.tree.ForLoopTree;
import com.sun.source.tree.MethodInvocationTree;
import com.sun.source.tree.MethodTree;
import com.sun.source.tree.NewArrayTree;
import com.sun.source.tree.NewClassTree;
import com.sun.source.tree.Tree;
import com.sun.source.tree.TypeCastTree;
import com.sun.source.tree.VariableTree;
import com.sun.source.tree.WhileLoopTree;
import com.sun.source.util.JavacTask;
import com.sun.source.util.TreePathScanner;
import com.sun.source.util.Trees;
import java.io.IOException;
import java.nio.file.Path;
import java.util.LinkedHashMap;
import java.util.LinkedHashSet;
import java.util.Map;
import java.util.Set;
import java.util.TreeSet;
import javax.lang.model.element.Element;
import javax.lang.model.element.ElementKind;
import javax.lang.model.element.ExecutableElement;
import javax.lang.model.element.Modifier;
import javax.lang.model.type.TypeMirror;
import javax.tools.JavaCompiler;
import javax.tools.StandardJavaFileManager;
import javax.tools.ToolProvider;

/**
 * What LANGUAGE.md wants of the program and its words alone don't tell: which methods call which, how deep, which of
 * the library's are called, of which types things are, what is made in loops. Argument: the program.
 */
public final class CallsTest {
    private static final int DEEPEST = 8;
    private static final Set<String> LIBRARY = Set.of("java.lang.Object.<init>", "java.lang.Integer.bitCount", "java.lang.Math.max",
            "java.lang.Math.min", "java.lang.System.arraycopy", "java.util.Arrays.copyOf", "java.util.Arrays.copyOfRange",
            "java.util.Arrays.fill");
    private static final Set<String> PLAIN_TYPES = Set.of("void", "int", "long", "short", "byte", "char", "boolean");

    private final Trees trees;
    private final Map<ExecutableElement, Set<ExecutableElement>> calls = new LinkedHashMap<>();
    private final Set<String> faults = new TreeSet<>();

    private CallsTest(Trees trees) {
        this.trees = trees;
    }

    public static void main(String[] args) throws IOException {
        JavaCompiler compiler = ToolProvider.getSystemJavaCompiler();
        try (StandardJavaFileManager files = compiler.getStandardFileManager(null, null, null)) {
            JavacTask task = (JavacTask) compiler.getTask(null, files, null, null, null,
                    files.getJavaFileObjects(Path.of(args.length > 0 ? args[0] : "src/main/java/FeatureDesk.java")));
            Iterable<? extends CompilationUnitTree> units = task.parse();
            task.analyze();
            CallsTest test = new CallsTest(Trees.instance(task));
            for (CompilationUnitTree unit : units) {
                test.look(unit);
            }
            // How deep calls go has an end only where none comes to itself again.
            if (test.lookAtRecursion()) {
                test.lookAtDepth();
            }
            test.end();
        }
    }

    private void end() {
        for (String fault : faults) {
            System.out.println(fault);
        }
        if (calls.size() < 150) {
            System.out.println("the look at calls found only " + calls.size() + " methods");
            System.exit(1);
        }
        System.out.println(calls.size() + " methods looked at, " + faults.size() + " faults");
        if (!faults.isEmpty()) {
            System.exit(1);
        }
    }

    private static String name(ExecutableElement method) {
        return method.getEnclosingElement() + "." + method.getSimpleName();
    }

    private static boolean isOfLibrary(Element e) {
        return e.toString().startsWith("java.") || e.getEnclosingElement().toString().startsWith("java.");
    }

    private void fault(boolean is, String what) {
        if (is) {
            faults.add(what);
        }
    }

    private void look(CompilationUnitTree unit) {
        new Scanner().scan(unit, null);
    }

    private final class Scanner extends TreePathScanner<Void, Void> {
        private ExecutableElement method = null;
        private int loops = 0;

        @Override
        public Void visitClass(ClassTree tree, Void none) {
            Element e = trees.getElement(getCurrentPath());
            boolean inside = e.getEnclosingElement().getKind() != ElementKind.PACKAGE;
            fault(inside && !e.getModifiers().contains(Modifier.STATIC), "a class that is not static: " + e);
            return super.visitClass(tree, none);
        }

        @Override
        public Void visitMethod(MethodTree tree, Void none) {
            ExecutableElement outer = method;
            method = (ExecutableElement) trees.getElement(getCurrentPath());
            calls.put(method, new LinkedHashSet<>());
            fault(method.getParameters().size() > 7, "more than seven parameters: " + name(method));
            super.visitMethod(tree, none);
            method = outer;
            return null;
        }

        @Override
        public Void visitMethodInvocation(MethodInvocationTree tree, Void none) {
            calledIs(trees.getElement(getCurrentPath()));
            return super.visitMethodInvocation(tree, none);
        }

        @Override
        public Void visitNewClass(NewClassTree tree, Void none) {
            calledIs(trees.getElement(getCurrentPath()));
            made(tree);
            return super.visitNewClass(tree, none);
        }

        @Override
        public Void visitNewArray(NewArrayTree tree, Void none) {
            made(tree);
            return super.visitNewArray(tree, none);
        }

        private void calledIs(Element called) {
            if (!(called instanceof ExecutableElement)) {
                fault(true, "a call that the compiler does not know: " + called);
                return;
            }
            ExecutableElement e = (ExecutableElement) called;
            if (isOfLibrary(e)) {
                fault(!LIBRARY.contains(name(e)), "not of the library's part that may be used: " + name(e));
            } else if (method != null) {
                calls.get(method).add(e);
            }
        }

        /** Rows are made in constructors: what a call makes is told by name. */
        private void made(Tree tree) {
            boolean mayMake = method == null || method.getKind() == ElementKind.CONSTRUCTOR || method.getSimpleName().contentEquals("makeCondition");
            fault(!mayMake, "something is made in " + method + ": " + tree);
            fault(loops > 0 && (method == null || method.getKind() != ElementKind.CONSTRUCTOR), "something is made in a loop: " + tree);
        }

        @Override
        public Void visitVariable(VariableTree tree, Void none) {
            TypeMirror type = trees.getTypeMirror(getCurrentPath());
            String text = type.toString();
            boolean rows = text.endsWith("[][]");
            String single = text.replace("[]", "");
            boolean known = PLAIN_TYPES.contains(single) || single.equals("FeatureDesk") || single.startsWith("FeatureDesk.");
            fault(!known || rows, "a type that may not be: " + text + " " + tree.getName());
            return super.visitVariable(tree, none);
        }

        @Override
        public Void visitTypeCast(TypeCastTree tree, Void none) {
            fault(!PLAIN_TYPES.contains(tree.getType().toString()), "a cast to " + tree.getType());
            return super.visitTypeCast(tree, none);
        }

        /** A divisor that is no constant is to be looked at ahead: there is one such, of draws. */
        @Override
        public Void visitBinary(BinaryTree tree, Void none) {
            boolean divides = tree.getKind() == Tree.Kind.DIVIDE || tree.getKind() == Tree.Kind.REMAINDER;
            boolean constant = tree.getRightOperand().toString().matches("[1-9][0-9]*|BUCKETS");
            boolean draws = method != null && method.getSimpleName().contentEquals("draw");
            fault(divides && !constant && !draws, "a divisor that is no constant: " + tree);
            fault(tree.getKind() == Tree.Kind.PLUS && isText(tree), "texts joined by +: " + tree);
            return super.visitBinary(tree, none);
        }

        private boolean isText(BinaryTree tree) {
            TypeMirror type = trees.getTypeMirror(getCurrentPath());
            return type != null && type.toString().equals("java.lang.String");
        }

        @Override
        public Void visitForLoop(ForLoopTree tree, Void none) {
            fault(tree.getCondition() == null, "a loop without an end in " + method);
            loops++;
            super.visitForLoop(tree, none);
            loops--;
            return null;
        }

        @Override
        public Void visitEnhancedForLoop(EnhancedForLoopTree tree, Void none) {
            loops++;
            super.visitEnhancedForLoop(tree, none);
            loops--;
            return null;
        }

        @Override
        public Void visitWhileLoop(WhileLoopTree tree, Void none) {
            fault(true, "a while, whose end is not seen from its own lines, in " + method);
            return super.visitWhileLoop(tree, none);
        }

        @Override
        public Void visitDoWhileLoop(DoWhileLoopTree tree, Void none) {
            fault(true, "a do, whose end is not seen from its own lines, in " + method);
            return super.visitDoWhileLoop(tree, none);
        }
    }

    /** Whether decide() alone calls itself, and carries how deep it is, and nothing else comes to itself again. */
    private boolean lookAtRecursion() {
        int before = faults.size();
        for (ExecutableElement method : calls.keySet()) {
            Set<ExecutableElement> reached = new LinkedHashSet<>();
            reach(method, reached);
            boolean itself = reached.contains(method);
            boolean may = method.getSimpleName().contentEquals("decide") && method.getModifiers().contains(Modifier.PRIVATE)
                    && method.getModifiers().contains(Modifier.STATIC)
                    && method.getParameters().get(method.getParameters().size() - 1).getSimpleName().contentEquals("depth");
            fault(itself && !may, "recursion: " + name(method));
            if (itself) {
                Set<ExecutableElement> around = new LinkedHashSet<>(calls.get(method));
                around.remove(method);
                for (ExecutableElement other : around) {
                    Set<ExecutableElement> on = new LinkedHashSet<>();
                    reach(other, on);
                    fault(on.contains(method), "recursion by way of " + name(other));
                }
            }
        }
        return faults.size() == before;
    }

    private void reach(ExecutableElement from, Set<ExecutableElement> reached) {
        for (ExecutableElement next : calls.getOrDefault(from, Set.of())) {
            if (reached.add(next)) {
                reach(next, reached);
            }
        }
    }

    private void lookAtDepth() {
        for (ExecutableElement method : calls.keySet()) {
            if (method.getModifiers().contains(Modifier.PUBLIC)) {
                int depth = depth(method);
                fault(depth > DEEPEST, name(method) + " goes " + depth + " calls deep");
            }
        }
    }

    private int depth(ExecutableElement method) {
        int deepest = 0;
        for (ExecutableElement next : calls.getOrDefault(method, Set.of())) {
            if (next != method) {
                deepest = Math.max(deepest, depth(next));
            }
        }
        return deepest + 1;
    }
}
