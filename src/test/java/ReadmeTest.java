import java.net.URL;
import java.net.URLClassLoader;
import java.nio.file.Files;
import java.nio.file.Path;
import java.util.ArrayList;
import java.util.List;
import java.util.regex.Matcher;
import java.util.regex.Pattern;

/** README.md: its example answers what stands behind each call, and it tells each call there is. */
public final class ReadmeTest {
    private static final Path README = Path.of("README.md");
    private static final Pattern EXAMPLE = Pattern.compile("(?s)```java\n(.*?)```");
    // A call, and an answer at the start of what is said of it.
    private static final Pattern ANSWERED = Pattern.compile(
        "(x\\.\\w+\\([^)]*\\)); *// (-?\\d+(?:L << \\d+)?|REFUSED|NONE|FULL|FAILED)\\b.*");
    private static final Pattern CALL = Pattern.compile("x\\.\\w+\\([^)]*\\); *//.*");
    private static final String[] TOLD = {"record(key, value)", "wipe()", "code(program, op, n)",
        "clear(program)", "check(program)", "run(trouble)", "result(k, what)", "valueOf(key)",
        "count(what)", "new GrindField(size, workers, parts)", "REFUSED", "NONE", "FULL", "FAILED",
        ".ci/run"};

    public static void main(String[] args) throws Exception {
        Tester t = new Tester();
        String text = Files.readString(README);
        for (String told : TOLD) {
            t.due("README.md tells " + told, text.contains(told) ? 1 : 0, 1);
        }
        tellsEachTest(t, text);
        example(t, text);
        t.end();
    }

    private static void tellsEachTest(Tester t, String text) throws Exception {
        // Those of the promises are told as a row, from the first to the last.
        String promises = "NewObject Record Wipe Code Clear Check Run Result ValueOf Count";
        try (var files = Files.newDirectoryStream(Path.of("src/test/java"), "*Test.java")) {
            for (Path file : files) {
                String name = file.getFileName().toString().replace(".java", "");
                boolean told = text.contains("`" + name + "`")
                    || List.of(promises.split(" ")).contains(name.replace("Test", ""));
                t.due("README.md tells " + name, told ? 1 : 0, 1);
            }
        }
    }

    private static void example(Tester t, String text) throws Exception {
        Matcher found = EXAMPLE.matcher(text);
        if (!found.find()) {
            t.due("examples in README.md", 0, 1);
            return;
        }
        List<String> wants = new ArrayList<>();
        String code = code(t, found.group(1), wants);
        Path room = Files.createTempDirectory("readme");
        try {
            compare(t, room, code, wants);
        } finally {
            SourceCompiler.remove(room);
        }
    }

    /** The example as a class whose method answers pairs of what is got and what is due. */
    private static String code(Tester t, String example, List<String> calls) {
        StringBuilder body = new StringBuilder();
        for (String line : example.split("\n")) {
            Matcher answered = ANSWERED.matcher(line);
            if (answered.matches()) {
                String due = answered.group(2);
                String want = Character.isLetter(due.charAt(0)) ? "GrindField." + due : due;
                body.append("all.add(new long[] {" + answered.group(1) + ", " + want + "});\n");
                calls.add(answered.group(1));
                continue;
            }
            boolean isCode = line.startsWith("GrindField x = ") || CALL.matcher(line).matches();
            t.due("a line of the example: " + line, isCode ? 1 : 0, 1);
            body.append(line + "\n");
        }
        return "public final class Example {\n"
            + "public static java.util.List<long[]> answers() {\n"
            + "java.util.List<long[]> all = new java.util.ArrayList<>();\n"
            + body + "return all;\n}\n}\n";
    }

    private static void compare(Tester t, Path room, String code, List<String> calls) throws Exception {
        URL own = GrindField.class.getProtectionDomain().getCodeSource().getLocation();
        String refused = SourceCompiler.compile("Example", code, room,
            "-cp", Path.of(own.toURI()).toString());
        t.due("the example compiles " + refused, refused.isEmpty() ? 1 : 0, 1);
        if (!refused.isEmpty()) {
            return;
        }
        URL[] urls = {room.toUri().toURL()};
        try (URLClassLoader loader = new URLClassLoader(urls, GrindField.class.getClassLoader())) {
            List<?> answers = (List<?>) loader.loadClass("Example").getMethod("answers").invoke(null);
            for (int i = 0; i < answers.size(); i++) {
                long[] pair = (long[]) answers.get(i);
                t.due("the example's " + calls.get(i), pair[0], pair[1]);
            }
            t.due("answers in the example", Math.min(10, answers.size()), 10);
        }
    }
}
