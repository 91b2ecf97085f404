import com.sun.source.tree.BinaryTree;
import com.sun.source.tree.ClassTree;
import com.sun.source.tree.CompilationUnitTree;
import com.sun.source.tree.MethodInvocationTree;
import com.sun.source.tree.MethodTree;
import com.sun.source.tree.NewClassTree;
import com.sun.source.tree.Tree;
import com.sun.source.util.JavacTask;
import com.sun.source.util.TreePathScanner;
import com.sun.source.util.Trees;
import java.io.IOException;
import java.nio.file.Path;
import java.util.ArrayList;
import java.util.Arrays;
import java.util.EnumSet;
import java.util.HashSet;
import java.util.LinkedHashMap;
import java.util.LinkedHashSet;
import java.util.List;
import java.util.Map;
import java.util.Set;
import javax.lang.model.element.Element;
import javax.lang.model.element.Modifier;
import javax.tools.JavaCompiler;
import javax.tools.StandardJavaFileManager;
import javax.tools.ToolProvider;

/** The rules of ../shared/LANGUAGE.md on calls, held against the syntax tree of the program; run it from the root. */
public final class CallsTest {
    /** Rule 4: what of the library the program may call (of the part of it that it needs). */
    private static final Set<String> LIBRARY = new HashSet<>(Arrays.asList(
            "java.lang.Math.max", "java.lang.Math.min", "java.lang.Math.abs", "java.lang.Math.floorDiv",
            "java.lang.Math.floorMod", "java.lang.String.length", "java.lang.String.charAt",
            "java.lang.System.arraycopy", "java.util.Arrays.copyOf", "java.util.Arrays.fill"));
    /** Rules 2 and 6: what no tree of the program may be. */
    private static final Set<Tree.Kind> FORBIDDEN = EnumSet.of(Tree.Kind.LAMBDA_EXPRESSION,
            Tree.Kind.MEMBER_REFERENCE, Tree.Kind.THROW, Tree.Kind.TRY, Tree.Kind.CATCH, Tree.Kind.SYNCHRONIZED,
            Tree.Kind.ASSERT);
    /** Rule 11: so deep may calls go that are no recursion. */
    private static final int DEEPEST = 8;

    private static int wrong;

    private final Trees trees;
    private final Map<Element, Set<Element>> calls = new LinkedHashMap<>();
    private final Map<Element, Integer> depths = new LinkedHashMap<>();

    private CallsTest(Trees trees) {
        this.trees = trees;
    }

    public static void main(String[] args) throws IOException {
        JavaCompiler compiler = ToolProvider.getSystemJavaCompiler();
        try (StandardJavaFileManager files = compiler.getStandardFileManager(null, null, null)) {
            JavacTask task = (JavacTask) compiler.getTask(null, files, null, null, null,
                    files.getJavaFileObjects(Path.of("src/main/java/LeaningTower.java")));
            Iterable<? extends CompilationUnitTree> units = task.parse();
            task.analyze();
            CallsTest test = new CallsTest(Trees.instance(task));
            for (CompilationUnitTree unit : units) {
                test.look(unit);
            }
            test.recursion();
            test.depth();
        }
        System.out.println(wrong == 0 ? "CallsTest: the rules are kept" : wrong + " rules are not kept");
        if (wrong != 0) {
            System.exit(1);
        }
    }

    private static void refuse(String rule, String what) {
        wrong++;
        System.out.println("rule " + rule + ": " + what);
    }

    /** Finds who calls whom, and what may not stand anywhere. */
    private void look(CompilationUnitTree unit) {
        new TreePathScanner<Void, Element>() {
            @Override
            public Void scan(Tree tree, Element caller) {
                if (tree != null && FORBIDDEN.contains(tree.getKind())) {
                    refuse("2, 6", "has a " + tree.getKind() + ": " + tree);
                }
                return super.scan(tree, caller);
            }

            @Override
            public Void visitClass(ClassTree tree, Element caller) {
                if (tree.getSimpleName().length() == 0) {
                    refuse("2", "a class without a name");
                }
                return super.visitClass(tree, caller);
            }

            @Override
            public Void visitMethod(MethodTree tree, Element caller) {
                Element method = trees.getElement(getCurrentPath());
                calls.put(method, new LinkedHashSet<>());
                return super.visitMethod(tree, method);
            }

            @Override
            public Void visitMethodInvocation(MethodInvocationTree tree, Element caller) {
                called(caller, trees.getElement(getCurrentPath()));
                return super.visitMethodInvocation(tree, caller);
            }

            @Override
            public Void visitNewClass(NewClassTree tree, Element caller) {
                called(caller, trees.getElement(getCurrentPath()));
                return super.visitNewClass(tree, caller);
            }

            @Override
            public Void visitBinary(BinaryTree tree, Element caller) {
                if (tree.getKind() == Tree.Kind.PLUS
                        && trees.getTypeMirror(getCurrentPath()).toString().equals("java.lang.String")) {
                    refuse("10", "texts are joined by +: " + tree);
                }
                return super.visitBinary(tree, caller);
            }
        }.scan(unit, null);
    }

    private void called(Element caller, Element target) {
        String owner = target.getEnclosingElement().toString();
        boolean own = owner.equals("LeaningTower") || owner.startsWith("LeaningTower.");
        if (own && caller == null) {
            refuse("11", target + " is called by no method");
        } else if (own) {
            calls.get(caller).add(target);
        } else if (!LIBRARY.contains(owner + "." + target.getSimpleName())
                && !target.toString().equals("Object()")) {
            refuse("4", owner + "." + target);
        }
    }

    private Set<Element> reachedFrom(Element method) {
        Set<Element> reached = new LinkedHashSet<>();
        List<Element> open = new ArrayList<>(targets(method));
        while (!open.isEmpty()) {
            Element next = open.remove(open.size() - 1);
            if (reached.add(next)) {
                open.addAll(targets(next));
            }
        }
        return reached;
    }

    private Set<Element> targets(Element method) {
        return calls.getOrDefault(method, Set.of());
    }

    /** Rule 8: those that call one another are private. */
    private void recursion() {
        for (Element method : calls.keySet()) {
            if (reachedFrom(method).contains(method) && !method.getModifiers().contains(Modifier.PRIVATE)) {
                refuse("8", method + " is recursive and not private");
            }
        }
    }

    /** Methods that call one another count as one. */
    private void depth() {
        for (Element method : calls.keySet()) {
            if (method.getModifiers().contains(Modifier.PUBLIC) && depthOf(method) > DEEPEST) {
                refuse("11", method + " goes " + depthOf(method) + " deep");
            }
        }
    }

    private int depthOf(Element method) {
        Integer known = depths.get(method);
        if (known != null) {
            return known;
        }
        Set<Element> group = new LinkedHashSet<>();
        group.add(method);
        for (Element other : reachedFrom(method)) {
            if (reachedFrom(other).contains(method)) {
                group.add(other);
            }
        }
        int deepest = 0;
        for (Element member : group) {
            for (Element target : targets(member)) {
                deepest = group.contains(target) ? deepest : Math.max(deepest, depthOf(target));
            }
        }
        depths.put(method, deepest + 1);
        return deepest + 1;
    }
}
