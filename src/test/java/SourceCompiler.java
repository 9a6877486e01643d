import java.net.URI;
import java.nio.file.Files;
import java.nio.file.Path;
import java.util.ArrayList;
import java.util.Comparator;
import java.util.List;
import java.util.stream.Stream;
import javax.tools.DiagnosticCollector;
import javax.tools.JavaCompiler;
import javax.tools.JavaFileObject;
import javax.tools.SimpleJavaFileObject;
import javax.tools.StandardJavaFileManager;
import javax.tools.ToolProvider;

/** Compiles texts that do not stand in a file. */
final class SourceCompiler {
    private SourceCompiler() {
    }

    /** What is wrong with a class of this name and text: empty if it is compiled into the place. */
    static String compile(String name, String text, Path place, String... moreOptions) throws Exception {
        JavaCompiler compiler = ToolProvider.getSystemJavaCompiler();
        DiagnosticCollector<JavaFileObject> told = new DiagnosticCollector<>();
        URI uri = URI.create("string:///" + name + ".java");
        JavaFileObject file = new SimpleJavaFileObject(uri, JavaFileObject.Kind.SOURCE) {
            @Override
            public CharSequence getCharContent(boolean ignored) {
                return text;
            }
        };
        List<String> options = new ArrayList<>(List.of("-d", place.toString(), "-proc:none"));
        options.addAll(List.of(moreOptions));
        try (StandardJavaFileManager files = compiler.getStandardFileManager(told, null, null)) {
            boolean done = compiler.getTask(null, files, told, options, null, List.of(file)).call();
            return done ? "" : told.getDiagnostics().toString();
        }
    }

    static void remove(Path room) throws Exception {
        try (Stream<Path> files = Files.walk(room)) {
            for (Path file : files.sorted(Comparator.reverseOrder()).toList()) {
                Files.delete(file);
            }
        }
    }
}
