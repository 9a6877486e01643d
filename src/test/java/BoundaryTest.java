import java.nio.file.Files;
import java.nio.file.Path;
import java.util.HashSet;
import java.util.List;
import java.util.Set;

/** One test for each edge that the document names; the words that name it stand there. */
public final class BoundaryTest {
    private static final Path DOCUMENT = Path.of("../shared/DOC.md");

    public static void main(String[] args) throws Exception {
        Tester t = new Tester();
        List<Boundary> all = Boundaries.all();
        String document = Files.readString(DOCUMENT).replaceAll("\\s+", " ");
        Set<String> names = new HashSet<>();
        for (Boundary boundary : all) {
            int wrong = boundary.wrongAnswers(true);
            t.due("wrong answers at " + boundary, wrong, 0);
            t.due("only one " + boundary, names.add(boundary.toString()) ? 1 : 0, 1);
            t.due("in the document: " + boundary, document.contains(boundary.words) ? 1 : 0, 1);
        }
        System.out.println(all.size() + " boundaries");
        t.end();
    }
}
