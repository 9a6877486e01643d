import java.util.ArrayList;
import java.util.List;

/** All edges that the document names, in its order. */
final class Boundaries {
    private Boundaries() {
    }

    static List<Boundary> all() {
        List<Boundary> all = new ArrayList<>();
        all.addAll(RecordBoundaries.all());
        all.addAll(ProgramBoundaries.all());
        all.addAll(OpBoundaries.all());
        all.addAll(WrongBoundaries.all());
        all.addAll(StepBoundaries.all());
        all.addAll(JobBoundaries.all());
        all.addAll(PromiseBoundaries.all());
        return all;
    }

    /** Tells whether the test of one finds a fault in the class that is loaded. */
    static boolean findsFault(int number) {
        try {
            return all().get(number).wrongAnswers(false) > 0;
        } catch (RuntimeException failure) {
            return true;
        }
    }
}
