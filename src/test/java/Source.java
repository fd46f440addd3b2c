import com.sun.source.tree.BlockTree;
import com.sun.source.tree.ClassTree;
import com.sun.source.tree.CompilationUnitTree;
import com.sun.source.tree.MethodTree;
import com.sun.source.tree.Tree;
import com.sun.source.util.JavacTask;
import com.sun.source.util.TreePath;
import com.sun.source.util.TreePathScanner;
import com.sun.source.util.Trees;
import java.io.File;
import java.io.IOException;
import java.nio.charset.StandardCharsets;
import java.util.ArrayList;
import java.util.List;
import javax.lang.model.element.Element;
import javax.lang.model.element.TypeElement;
import javax.lang.model.type.TypeMirror;
import javax.tools.JavaCompiler;
import javax.tools.StandardJavaFileManager;
import javax.tools.ToolProvider;

/** The program as the compiler reads it: all its trees, each with what it stands in and what it names. */
final class Source {
    static final String FILE = "src/main/java/PostTariff.java";

    private final CompilationUnitTree unit;
    private final Trees trees;
    private final List<TreePath> paths = new ArrayList<>();

    /** It is run from the project's folder. */
    Source() throws IOException {
        JavaCompiler compiler = ToolProvider.getSystemJavaCompiler();
        if (compiler == null) {
            throw new IllegalStateException("a JDK is needed, as its compiler reads the source");
        }
        StandardJavaFileManager files = compiler.getStandardFileManager(null, null, StandardCharsets.UTF_8);
        JavacTask task = (JavacTask) compiler.getTask(null, files, null, List.of("--release", "17"), null,
                files.getJavaFileObjects(new File(FILE)));
        unit = task.parse().iterator().next();
        task.analyze();
        trees = Trees.instance(task);
        new TreePathScanner<Void, Void>() {
            @Override
            public Void scan(Tree tree, Void none) {
                if (tree != null && getCurrentPath() != null) {
                    paths.add(new TreePath(getCurrentPath(), tree));
                }
                return super.scan(tree, none);
            }
        }.scan(new TreePath(unit), null);
    }

    CompilationUnitTree unit() {
        return unit;
    }

    /** All trees of some kinds, in the order of the text; but for what the compiler puts in itself. */
    List<TreePath> all(Tree.Kind... kinds) {
        List<Tree.Kind> wanted = List.of(kinds);
        List<TreePath> found = new ArrayList<>();
        for (TreePath path : paths) {
            if (wanted.contains(path.getLeaf().getKind()) && isWritten(path)) {
                found.add(path);
            }
        }
        return found;
    }

    private boolean isWritten(TreePath path) {
        long start = trees.getSourcePositions().getStartPosition(unit, path.getLeaf());
        long end = trees.getSourcePositions().getEndPosition(unit, path.getLeaf());
        return start >= 0 && end > start;
    }

    /** What a tree names or declares; null if nothing. */
    Element named(TreePath path) {
        return trees.getElement(path);
    }

    /** The class, or the package, in which something is declared. */
    static String ownerOf(Element element) {
        Element owner = element.getEnclosingElement();
        return owner instanceof TypeElement ? ((TypeElement) owner).getQualifiedName().toString() : String.valueOf(owner);
    }

    static boolean isOwn(String className) {
        return className.equals("PostTariff") || className.startsWith("PostTariff.");
    }

    TypeMirror typeOf(TreePath path) {
        return trees.getTypeMirror(path);
    }

    TypeMirror typeOf(TreePath path, Tree part) {
        return trees.getTypeMirror(new TreePath(path, part));
    }

    long line(TreePath path) {
        return unit.getLineMap().getLineNumber(trees.getSourcePositions().getStartPosition(unit, path.getLeaf()));
    }

    long lines(TreePath path) {
        return unit.getLineMap().getLineNumber(trees.getSourcePositions().getEndPosition(unit, path.getLeaf()))
                - line(path) + 1;
    }

    String at(TreePath path) {
        String text = path.getLeaf().toString().strip();
        int end = text.indexOf('\n');
        return "line " + line(path) + ": " + (end < 0 ? text : text.substring(0, end));
    }

    /** The method in which a tree stands; null in a class's own part. */
    static TreePath methodOf(TreePath path) {
        for (TreePath outer = path; outer != null; outer = outer.getParentPath()) {
            if (outer.getLeaf() instanceof MethodTree) {
                return outer;
            }
            if (outer.getLeaf() instanceof ClassTree) {
                return null;
            }
        }
        return null;
    }

    static String nameOfMethod(TreePath path) {
        TreePath method = methodOf(path);
        return method == null ? "" : ((MethodTree) method.getLeaf()).getName().toString();
    }

    static boolean isIn(TreePath path, Tree outer) {
        for (TreePath step = path; step != null; step = step.getParentPath()) {
            if (step.getLeaf() == outer) {
                return true;
            }
        }
        return false;
    }

    static boolean isStaticBlock(Tree tree) {
        return tree instanceof BlockTree && ((BlockTree) tree).isStatic();
    }
}
