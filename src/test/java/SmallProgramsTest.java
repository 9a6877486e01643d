import java.util.ArrayList;
import java.util.List;

/** Promise 6 without gaps: all small programs of some instructions answer check as the model does. */
public final class SmallProgramsTest {
    // So many numbers come before: from the empty stack to the full one.
    private static final int[] HEIGHTS = {0, 2, 7, 8};
    private static final int MOST = 3;
    private static final int[][] INSTRUCTIONS = {
        {0, 9}, {1, 1}, {1, 2}, {2, 0}, {3, 3}, {3, 4}, {4, 0}, {5, 0}, {6, 0}, {7, 0}, {12, 0},
        {16, 0}, {17, 0}, {18, 0}, {19, 0}, {-1, 0},
    };

    private final Tester tester = new Tester();
    // How often each answer was due: first NONE, then the instructions from 0 on.
    private final int[] seen = new int[1 + 8 + MOST];

    public static void main(String[] args) {
        SmallProgramsTest test = new SmallProgramsTest();
        for (int program : Tester.ALL) {
            for (int height : HEIGHTS) {
                for (int length = 1; length <= MOST; length++) {
                    test.allOf(program, height, length);
                }
            }
        }
        test.tellSeen();
        test.tester.end();
    }

    /** The instructions with jumps to each of the program's last ones, one before and one behind. */
    private static List<int[]> choices(int height, int length) {
        List<int[]> choices = new ArrayList<>(List.of(INSTRUCTIONS));
        for (int n = height - 1; n <= height + length; n++) {
            choices.add(new int[] {14, n});
            choices.add(new int[] {15, n});
        }
        return choices;
    }

    private void allOf(int program, int height, int length) {
        List<int[]> choices = choices(height, length);
        GrindField field = new GrindField(1, 1, 1);
        Model model = new Model(1);
        int[] picks = new int[length];
        do {
            field.clear(program);
            model.clear(program);
            for (int i = 0; i < height; i++) {
                add(field, model, program, new int[] {0, i});
            }
            for (int pick : picks) {
                add(field, model, program, choices.get(pick));
            }
            int want = model.check(program);
            seen[want < 0 ? 0 : want + 1]++;
            int got = field.check(program);
            // The name is told only if it is needed: there are very many.
            tester.due(got == want ? "" : name(program, height, picks, choices), got, want);
        } while (next(picks, choices.size()));
    }

    private static void add(GrindField field, Model model, int program, int[] one) {
        field.code(program, one[0], one[1]);
        model.code(program, one[0], one[1]);
    }

    /** Counts on, as the digits of a number do: false behind the last. */
    private static boolean next(int[] picks, int base) {
        for (int i = 0; i < picks.length; i++) {
            picks[i]++;
            if (picks[i] < base) {
                return true;
            }
            picks[i] = 0;
        }
        return false;
    }

    private static String name(int program, int height, int[] picks, List<int[]> choices) {
        StringBuilder name = new StringBuilder("check of " + program + " behind " + height + ":");
        for (int pick : picks) {
            name.append(" (" + choices.get(pick)[0] + ", " + choices.get(pick)[1] + ")");
        }
        return name.toString();
    }

    /** Each of the small instructions must have been the first WRONG one often enough. */
    private void tellSeen() {
        tester.due("enough of NONE", Math.min(20, seen[0]), 20);
        for (int height : HEIGHTS) {
            for (int i = height; i < height + MOST; i++) {
                tester.due("enough of " + i, Math.min(20, seen[i + 1]), 20);
            }
        }
    }
}
