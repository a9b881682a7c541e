import com.sun.source.tree.ClassTree;
import com.sun.source.tree.CompilationUnitTree;
import com.sun.source.tree.MethodInvocationTree;
import com.sun.source.tree.MethodTree;
import com.sun.source.tree.NewClassTree;
import com.sun.source.tree.Tree;
import com.sun.source.util.JavacTask;
import com.sun.source.util.TreePath;
import com.sun.source.util.TreePathScanner;
import com.sun.source.util.Trees;
import java.io.IOException;
import java.nio.file.Path;
import java.util.ArrayList;
import java.util.LinkedHashMap;
import java.util.LinkedHashSet;
import java.util.List;
import java.util.Map;
import java.util.Set;
import javax.lang.model.element.Element;
import javax.lang.model.element.ExecutableElement;
import javax.lang.model.type.TypeMirror;
import javax.tools.JavaCompiler;
import javax.tools.StandardJavaFileManager;
import javax.tools.ToolProvider;

/** A Java file as the compiler sees it: its trees, what they stand for, and which method calls which. */
final class SourceTree {
    private final CompilationUnitTree unit;
    private final Trees trees;
    private final List<TreePath> paths = new ArrayList<>();
    private final Map<Element, Set<Element>> ownCalls = new LinkedHashMap<>();
    private final List<ExecutableElement> libraryCalls = new ArrayList<>();

    SourceTree(Path file) throws IOException {
        JavaCompiler compiler = ToolProvider.getSystemJavaCompiler();
        try (StandardJavaFileManager files = compiler.getStandardFileManager(null, null, null)) {
            JavacTask task = (JavacTask) compiler.getTask(null, files, null, List.of("-proc:none"), null,
                files.getJavaFileObjects(file));
            unit = task.parse().iterator().next();
            task.analyze();
            trees = Trees.instance(task);
        }
        new TreePathScanner<Void, Void>() {
            @Override
            public Void scan(Tree tree, Void nothing) {
                if (tree != null) {
                    paths.add(new TreePath(getCurrentPath() == null ? new TreePath(unit) : getCurrentPath(), tree));
                }
                return super.scan(tree, nothing);
            }
        }.scan(new TreePath(unit), null);
        gatherCalls();
    }

    CompilationUnitTree unit() {
        return unit;
    }

    List<TreePath> paths() {
        return paths;
    }

    <T extends Tree> List<T> all(Class<T> kind) {
        List<T> found = new ArrayList<>();
        for (TreePath path : paths) {
            if (kind.isInstance(path.getLeaf())) {
                found.add(kind.cast(path.getLeaf()));
            }
        }
        return found;
    }

    TypeMirror typeOf(TreePath path, Tree part) {
        return trees.getTypeMirror(new TreePath(path, part));
    }

    /** The method, constructor or field that a tree stands in, or null. */
    static Tree memberAround(TreePath path) {
        for (TreePath p = path; p.getParentPath() != null; p = p.getParentPath()) {
            if (p.getParentPath().getLeaf() instanceof ClassTree) {
                return p.getLeaf();
            }
        }
        return null;
    }

    /** As it stands, so that a reader finds it. */
    String line(Tree tree) {
        long at = trees.getSourcePositions().getStartPosition(unit, tree);
        return "line " + unit.getLineMap().getLineNumber(at) + ": " + tree.toString().strip().split("\n")[0];
    }

    int linesOf(Tree tree) {
        long from = trees.getSourcePositions().getStartPosition(unit, tree);
        long to = trees.getSourcePositions().getEndPosition(unit, tree);
        return (int) (unit.getLineMap().getLineNumber(to) - unit.getLineMap().getLineNumber(from) + 1);
    }

    List<ExecutableElement> libraryCalls() {
        return libraryCalls;
    }

    private void gatherCalls() {
        for (TreePath path : paths) {
            if (path.getLeaf() instanceof MethodTree) {
                ownCalls.putIfAbsent(trees.getElement(path), new LinkedHashSet<>());
            }
        }
        for (TreePath path : paths) {
            Element called = calledAt(path);
            if (called != null && memberAround(path) instanceof MethodTree caller) {
                if (ownCalls.containsKey(called)) {
                    ownCalls.get(trees.getElement(trees.getPath(unit, caller))).add(called);
                } else {
                    libraryCalls.add((ExecutableElement) called);
                }
            }
        }
    }

    private Element calledAt(TreePath path) {
        if (path.getLeaf() instanceof MethodInvocationTree call) {
            return trees.getElement(new TreePath(path, call.getMethodSelect()));
        }
        return path.getLeaf() instanceof NewClassTree ? trees.getElement(path) : null;
    }

    /** How many own methods stand open at once at most; -1 if one of them calls itself, by others or not. */
    int callDepth() {
        int deepest = 0;
        for (Element method : ownCalls.keySet()) {
            int depth = depthFrom(method, new LinkedHashSet<>());
            if (depth < 0) {
                return -1;
            }
            deepest = Math.max(deepest, depth);
        }
        return deepest;
    }

    private int depthFrom(Element method, Set<Element> open) {
        if (!open.add(method)) {
            return -1;
        }
        int deepest = 0;
        for (Element called : ownCalls.get(method)) {
            int depth = depthFrom(called, open);
            if (depth < 0) {
                return -1;
            }
            deepest = Math.max(deepest, depth);
        }
        open.remove(method);
        return deepest + 1;
    }
}
