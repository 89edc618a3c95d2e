import com.sun.source.tree.CompilationUnitTree;
import com.sun.source.util.JavacTask;
import com.sun.source.util.Trees;
import java.io.IOException;
import java.nio.file.Files;
import java.nio.file.Path;
import java.util.List;
import javax.tools.JavaCompiler;
import javax.tools.StandardJavaFileManager;
import javax.tools.ToolProvider;

/** The rules of LANGUAGE.md that can be read off the source, as javac itself reads it. */
public final class LanguageTest {
    private static final Path FILE = Path.of("src/main/java/HostPacker.java");
    private static final int MOST_CLASSES = 12;
    private static final int MOST_DEEP = 8;

    private LanguageTest() {
    }

    private static RuleScan scan() throws IOException {
        JavaCompiler compiler = ToolProvider.getSystemJavaCompiler();
        try (StandardJavaFileManager files = compiler.getStandardFileManager(null, null, null)) {
            JavacTask task = (JavacTask) compiler.getTask(null, files, null,
                    List.of("-proc:none"), null, files.getJavaFileObjects(FILE));
            CompilationUnitTree unit = task.parse().iterator().next();
            task.analyze();
            RuleScan scan = new RuleScan(Trees.instance(task), unit);
            scan.scan(unit, null);
            return scan;
        }
    }

    private static void calls(Calls calls) {
        for (String method : calls.methods()) {
            String own = method.replace("HostPacker.", "");
            Check.due(method + " is called or of the face", calls.isCalled(method)
                    || own.equals("<init>") || FaceTest.isOfTheFace(own));
            Check.due(method + " is in no ring of calls but its own", !calls.isInRing(method));
            Check.due(method + " opens at most " + MOST_DEEP + " calls",
                    calls.depth(method) <= MOST_DEEP);
        }
    }

    private static void letters() throws IOException {
        String text = Files.readString(FILE);
        Check.due("signs are 1 to 126", text.chars().allMatch(sign -> sign > 0 && sign < 127));
        Check.due("no package line", !text.matches("(?s).*^\\s*package .*"));
    }

    public static void main(String[] args) throws IOException {
        RuleScan scan = scan();
        Check.due("classes", scan.classes() > 0 && scan.classes() <= MOST_CLASSES);
        calls(scan.calls());
        letters();
        Check.close();
    }
}
