import com.sun.source.tree.ClassTree;
import com.sun.source.tree.CompilationUnitTree;
import com.sun.source.tree.IdentifierTree;
import com.sun.source.tree.MethodInvocationTree;
import com.sun.source.tree.MethodTree;
import com.sun.source.tree.NewClassTree;
import com.sun.source.tree.Tree;
import com.sun.source.util.JavacTask;
import com.sun.source.util.TreePath;
import com.sun.source.util.TreePathScanner;
import com.sun.source.util.Trees;
import java.io.IOException;
import java.nio.file.Path;
import java.util.ArrayList;
import java.util.LinkedHashMap;
import java.util.LinkedHashSet;
import java.util.List;
import java.util.Map;
import java.util.Set;
import javax.lang.model.element.Element;
import javax.lang.model.element.ElementKind;
import javax.lang.model.type.TypeMirror;
import javax.tools.JavaCompiler;
import javax.tools.StandardJavaFileManager;
import javax.tools.ToolProvider;

/** The class as the compiler reads it: every place of its tree, with the types and the methods that it names. */
final class Source {
    private final Trees trees;
    private final CompilationUnitTree unit;
    private final List<TreePath> places = new ArrayList<>();
    private final Map<Element, Set<Element>> calls = new LinkedHashMap<>();

    Source(Path file) throws IOException {
        JavaCompiler compiler = ToolProvider.getSystemJavaCompiler();
        StandardJavaFileManager files = compiler.getStandardFileManager(null, null, null);
        JavacTask task = (JavacTask) compiler.getTask(null, files, null, List.of("-proc:none"), null,
            files.getJavaFileObjects(file));
        trees = Trees.instance(task);
        unit = task.parse().iterator().next();
        task.analyze();
        collectPlaces();
        collectCalls();
    }

    private void collectPlaces() {
        new TreePathScanner<Void, Void>() {
            @Override
            public Void scan(Tree tree, Void none) {
                boolean written = tree != null && trees.getSourcePositions().getEndPosition(unit, tree) >= 0;
                if (written) {
                    places.add(new TreePath(getCurrentPath(), tree));
                }
                return super.scan(tree, none);
            }
        }.scan(new TreePath(unit), null);
    }

    private void collectCalls() {
        for (TreePath place : places(MethodTree.class)) {
            calls.put(element(place), new LinkedHashSet<>());
        }
        for (TreePath place : places) {
            boolean isCall = place.getLeaf() instanceof MethodInvocationTree || place.getLeaf() instanceof NewClassTree;
            if (isCall && calls.containsKey(element(place))) {
                callers(place).forEach(caller -> calls.get(caller).add(element(place)));
            }
        }
    }

    /** The method around a place; what stands in a field's initialiser is done by the constructors of its class. */
    private List<Element> callers(TreePath place) {
        MethodTree method = method(place);
        if (method != null) {
            return List.of(trees.getElement(trees.getPath(unit, method)));
        }
        Element owner = ownerOf(place);
        return calls.keySet().stream()
            .filter(one -> one.getKind() == ElementKind.CONSTRUCTOR && one.getEnclosingElement() == owner).toList();
    }

    private Element ownerOf(TreePath place) {
        TreePath at = place;
        while (!(at.getLeaf() instanceof ClassTree)) {
            at = at.getParentPath();
        }
        return element(at);
    }

    /** The places at which such a tree stands. */
    List<TreePath> places(Class<? extends Tree> kind) {
        return places.stream().filter(place -> kind.isInstance(place.getLeaf())).toList();
    }

    List<Tree.Kind> kinds() {
        return places.stream().map(place -> place.getLeaf().getKind()).distinct().toList();
    }

    Element element(TreePath place) {
        return trees.getElement(place);
    }

    TypeMirror type(TreePath place) {
        return trees.getTypeMirror(place);
    }

    TypeMirror type(TreePath place, Tree part) {
        return trees.getTypeMirror(new TreePath(place, part));
    }

    boolean isOfThisFile(Element element) {
        return element != null && trees.getPath(element) != null;
    }

    /** The method around a place, or null: a field's initialiser has none. */
    static MethodTree method(TreePath place) {
        for (TreePath at = place; at != null; at = at.getParentPath()) {
            if (at.getLeaf() instanceof MethodTree method) {
                return method;
            }
            if (at.getLeaf() instanceof ClassTree) {
                return null;
            }
        }
        return null;
    }

    static boolean isConstructor(MethodTree method) {
        return method != null && method.getName().contentEquals("<init>");
    }

    static boolean isThis(Tree tree) {
        return tree instanceof IdentifierTree name && name.getName().contentEquals("this");
    }

    long line(long position) {
        return unit.getLineMap().getLineNumber(position);
    }

    /** How many lines a tree takes. */
    long lines(Tree tree) {
        return line(trees.getSourcePositions().getEndPosition(unit, tree))
            - line(trees.getSourcePositions().getStartPosition(unit, tree)) + 1;
    }

    String where(TreePath place) {
        return "line " + line(trees.getSourcePositions().getStartPosition(unit, place.getLeaf())) + ": " + place.getLeaf();
    }

    Set<Element> methods() {
        return calls.keySet();
    }

    /** How many methods stand open at once below and with this one; more than the methods there are, if one recurs. */
    int depth(Element method) {
        return depth(method, 1);
    }

    private int depth(Element method, int open) {
        if (open > calls.size()) {
            return open;
        }
        int deepest = open;
        for (Element called : calls.get(method)) {
            deepest = Math.max(deepest, depth(called, open + 1));
        }
        return deepest;
    }
}
