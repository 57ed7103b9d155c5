import com.sun.source.tree.CompilationUnitTree;
import com.sun.source.tree.LineMap;
import com.sun.source.util.JavacTask;
import com.sun.source.util.SourcePositions;
import com.sun.source.util.TreePath;
import com.sun.source.util.Trees;
import java.io.IOException;
import java.nio.charset.StandardCharsets;
import java.nio.file.Path;
import java.util.List;
import javax.lang.model.element.Element;
import javax.lang.model.type.TypeMirror;
import javax.tools.JavaCompiler;
import javax.tools.StandardJavaFileManager;
import javax.tools.ToolProvider;

/** The program's file as the compiler understands it. */
final class Source {
    private static final Path FILE = Path.of("src/main/java/ToldShields.java");

    final CompilationUnitTree unit;
    private final Trees trees;

    private Source(CompilationUnitTree unit, Trees trees) {
        this.unit = unit;
        this.trees = trees;
    }

    static Source ofProgram() throws IOException {
        JavaCompiler compiler = ToolProvider.getSystemJavaCompiler();
        try (StandardJavaFileManager files = compiler.getStandardFileManager(null, null, StandardCharsets.UTF_8)) {
            JavacTask task = (JavacTask) compiler.getTask(
                    null, files, null, List.of("-proc:none"), null, files.getJavaFileObjects(FILE));
            CompilationUnitTree unit = task.parse().iterator().next();
            task.analyze();
            return new Source(unit, Trees.instance(task));
        }
    }

    Element element(TreePath path) {
        return trees.getElement(path);
    }

    TypeMirror type(TreePath path, com.sun.source.tree.Tree part) {
        return trees.getTypeMirror(new TreePath(path, part));
    }

    long firstLine(com.sun.source.tree.Tree part) {
        return line(trees.getSourcePositions().getStartPosition(unit, part));
    }

    long lines(com.sun.source.tree.Tree part) {
        SourcePositions positions = trees.getSourcePositions();
        return line(positions.getEndPosition(unit, part)) - firstLine(part) + 1;
    }

    private long line(long position) {
        LineMap map = unit.getLineMap();
        return position < 0 ? 0 : map.getLineNumber(position);
    }

    /** Whether an element stands in the program's own class. */
    static boolean isOwn(Element element) {
        for (Element around = element; around != null; around = around.getEnclosingElement()) {
            if (around.getSimpleName().contentEquals("ToldShields")) {
                return true;
            }
        }
        return false;
    }
}
