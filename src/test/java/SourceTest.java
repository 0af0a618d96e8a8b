import com.sun.source.tree.ClassTree;
import com.sun.source.tree.CompilationUnitTree;
import com.sun.source.tree.MethodInvocationTree;
import com.sun.source.tree.MethodTree;
import com.sun.source.tree.NewArrayTree;
import com.sun.source.tree.NewClassTree;
import com.sun.source.tree.Tree;
import com.sun.source.util.JavacTask;
import com.sun.source.util.TreePath;
import com.sun.source.util.TreePathScanner;
import com.sun.source.util.Trees;
import java.util.ArrayList;
import java.util.LinkedHashMap;
import java.util.LinkedHashSet;
import java.util.List;
import java.util.Map;
import java.util.Set;
import java.util.TreeSet;
import javax.lang.model.element.Element;
import javax.lang.model.element.ElementKind;
import javax.lang.model.element.TypeElement;
import javax.tools.JavaCompiler;
import javax.tools.StandardJavaFileManager;
import javax.tools.ToolProvider;

/** What of ../shared/LANGUAGE.md is seen only when it is known which method each call calls. */
public final class SourceTest extends Checks {
    private static final String SOURCE = "src/main/java/StoneHeld.java";
    private static final int DEEPEST = 8;
    private static final Set<String> LIBRARY = Set.of("Math.min", "Math.max", "Integer.bitCount",
            "String.length", "String.charAt");

    public static void main(String[] args) throws Exception {
        Calls calls = new Calls();
        calls.readAll();
        deep(calls);
        library(calls);
        made(calls);
        end("the source's calls");
    }

    private static void deep(Calls calls) {
        says("calls that are no recursion go at most eight deep");
        holds("few methods were seen: " + calls.from.size(), calls.from.size() > 100);
        for (Element method : calls.from.keySet()) {
            List<String> way = calls.deepest(method, new LinkedHashSet<>());
            holds(way.size() + " deep: " + way, way.size() <= DEEPEST);
        }
    }

    private static void library(Calls calls) {
        says("The library: only what stands here.");
        Set<String> used = new TreeSet<>();
        for (Set<Element> called : calls.from.values()) {
            for (Element method : called) {
                if (!calls.from.containsKey(method) && method.getKind() == ElementKind.METHOD) {
                    used.add(Calls.name(method));
                }
            }
        }
        holds("the library's " + used, LIBRARY.containsAll(used));
    }

    private static void made(Calls calls) {
        says("All rows are made by the constructor and used again");
        holds("made elsewhere: " + calls.making, calls.making.isEmpty());
    }

    private static final class Calls extends TreePathScanner<Void, Void> {
        private final Map<Element, Set<Element>> from = new LinkedHashMap<>();
        private final Set<String> making = new TreeSet<>();
        private Trees trees;

        private void readAll() throws Exception {
            JavaCompiler compiler = ToolProvider.getSystemJavaCompiler();
            try (StandardJavaFileManager files = compiler.getStandardFileManager(null, null, null)) {
                JavacTask task = (JavacTask) compiler.getTask(null, files, null, null, null,
                        files.getJavaFileObjects(SOURCE));
                Iterable<? extends CompilationUnitTree> units = task.parse();
                task.analyze();
                trees = Trees.instance(task);
                for (CompilationUnitTree unit : units) {
                    scan(unit, null);
                }
            }
        }

        @Override
        public Void visitMethod(MethodTree tree, Void nothing) {
            from.computeIfAbsent(trees.getElement(getCurrentPath()), key -> new LinkedHashSet<>());
            return super.visitMethod(tree, nothing);
        }

        @Override
        public Void visitMethodInvocation(MethodInvocationTree tree, Void nothing) {
            called(trees.getElement(new TreePath(getCurrentPath(), tree.getMethodSelect())));
            return super.visitMethodInvocation(tree, nothing);
        }

        @Override
        public Void visitNewClass(NewClassTree tree, Void nothing) {
            called(trees.getElement(getCurrentPath()));
            isMade(tree);
            return super.visitNewClass(tree, nothing);
        }

        @Override
        public Void visitNewArray(NewArrayTree tree, Void nothing) {
            isMade(tree);
            return super.visitNewArray(tree, nothing);
        }

        private void called(Element method) {
            from.computeIfAbsent(caller(), key -> new LinkedHashSet<>()).add(method);
        }

        private void isMade(Tree tree) {
            if (caller().getKind() != ElementKind.CONSTRUCTOR) {
                making.add(name(caller()) + ": " + tree);
            }
        }

        /** What stands at a field is done by its class's constructor. */
        private Element caller() {
            TreePath path = getCurrentPath();
            while (!(path.getLeaf() instanceof MethodTree) && !(path.getLeaf() instanceof ClassTree)) {
                path = path.getParentPath();
            }
            Element found = trees.getElement(path);
            if (found instanceof TypeElement) {
                for (Element member : found.getEnclosedElements()) {
                    if (member.getKind() == ElementKind.CONSTRUCTOR) {
                        return member;
                    }
                }
            }
            return found;
        }

        /** The longest row of calls from a method on, itself and the library's among it. */
        private List<String> deepest(Element method, Set<Element> open) {
            holds(name(method) + " calls itself", open.add(method));
            List<String> longest = List.of();
            if (open.size() <= 2 * DEEPEST) {
                for (Element next : from.getOrDefault(method, Set.of())) {
                    List<String> way = deepest(next, open);
                    longest = way.size() > longest.size() ? way : longest;
                }
            }
            open.remove(method);
            List<String> all = new ArrayList<>(List.of(name(method)));
            all.addAll(longest);
            return all;
        }

        private static String name(Element method) {
            return method.getEnclosingElement().getSimpleName() + "." + method.getSimpleName();
        }
    }
}
