import java.util.ArrayList;
import java.util.List;
import java.util.function.Consumer;

/**
 * An edge that the document names: the words that name it, what is tested there, the test of its
 * own, and breaks of the program, each of which this test must find.
 */
final class Boundary {
    final String words;
    final String edge;
    final Consumer<Tester> test;
    final List<String[]> breaks = new ArrayList<>();

    Boundary(String words, String edge, Consumer<Tester> test) {
        this.words = words;
        this.edge = edge;
        this.test = test;
    }

    /** A break: texts of the program that stand there once, and what comes instead, by turns. */
    Boundary broken(String... edits) {
        breaks.add(edits);
        return this;
    }

    /** How many answers are not as due on the class that is loaded. */
    int wrongAnswers(boolean tells) {
        Tester t = new Tester(tells);
        test.accept(t);
        return t.answers() == 0 ? 1 : t.wrongAnswers();
    }

    @Override
    public String toString() {
        return "\"" + words + "\": " + edge;
    }
}
