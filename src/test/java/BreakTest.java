import java.lang.reflect.Method;
import java.net.URL;
import java.net.URLClassLoader;
import java.nio.file.Files;
import java.nio.file.Path;
import java.util.ArrayList;
import java.util.List;
import java.util.concurrent.Callable;
import java.util.concurrent.ExecutorService;
import java.util.concurrent.Executors;
import java.util.concurrent.Future;

/** Breaks the program at each edge that the document names: the test of that edge must see it. */
public final class BreakTest {
    private static final Path SOURCE = Path.of("src/main/java/GrindField.java");

    private final String source;
    private final Path room;
    private final URL tests;

    private BreakTest(String source, Path room, URL tests) {
        this.source = source;
        this.room = room;
        this.tests = tests;
    }

    public static void main(String[] args) throws Exception {
        Path room = Files.createTempDirectory("breaks");
        try {
            URL tests = BreakTest.class.getProtectionDomain().getCodeSource().getLocation();
            new BreakTest(Files.readString(SOURCE), room, tests).breakAll();
        } finally {
            SourceCompiler.remove(room);
        }
    }

    private void breakAll() throws Exception {
        Tester t = new Tester();
        List<Boundary> all = Boundaries.all();
        List<Callable<String>> works = new ArrayList<>();
        for (int number = 0; number < all.size(); number++) {
            t.due("breaks of " + all.get(number), Math.min(1, all.get(number).breaks.size()), 1);
            for (String[] edits : all.get(number).breaks) {
                int which = number;
                int count = works.size();
                works.add(() -> faultOf(all.get(which), which, edits, room.resolve("break" + count)));
            }
        }
        ExecutorService pool = Executors.newFixedThreadPool(Runtime.getRuntime().availableProcessors());
        for (Future<String> fault : pool.invokeAll(works)) {
            t.due(fault.get(), fault.get().isEmpty() ? 0 : 1, 0);
        }
        pool.shutdown();
        System.out.println(works.size() + " breaks");
        t.end();
    }

    /** What is wrong with a break: empty if the test of its edge sees it. */
    private String faultOf(Boundary boundary, int number, String[] edits, Path place) throws Exception {
        String name = boundary + ", broken by " + String.join(" -> ", edits);
        String text = source;
        for (int i = 0; i < edits.length; i += 2) {
            if (source.split(java.util.regex.Pattern.quote(edits[i]), -1).length != 2) {
                return name + ": the text does not stand once in the program";
            }
            text = text.replace(edits[i], edits[i + 1]);
        }
        Files.createDirectory(place);
        String refused = SourceCompiler.compile("GrindField", text, place);
        if (!refused.isEmpty()) {
            return name + ": does not compile: " + refused;
        }
        URL[] urls = {place.toUri().toURL(), tests};
        try (URLClassLoader loader = new URLClassLoader(urls, ClassLoader.getPlatformClassLoader())) {
            Method finds = loader.loadClass("Boundaries").getDeclaredMethod("findsFault", int.class);
            finds.setAccessible(true);
            return (boolean) finds.invoke(null, number) ? "" : name + ": its test does not see it";
        }
    }
}
