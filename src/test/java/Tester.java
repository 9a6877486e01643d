/** Compares answers with those that are due, and loads programs and records in one line. */
final class Tester {
    static final int MAP = 0, JOIN = 1, FOLD = 2, END = 3;
    static final int[] ALL = {MAP, JOIN, FOLD, END};
    static final int GOOD = GrindField.NONE;
    static final int LEAST = Integer.MIN_VALUE, GREATEST = Integer.MAX_VALUE;
    static final long NO_VALUE = 1L << 40;

    // MAP: the record itself is the one pair.
    static final int[] SAME_PAIR = {1, 0, 1, 1, 16, 0, 17, 0};
    // MAP: as many pairs as the value tells: the key with value, value - 1, .. 1.
    static final int[] MANY = {1, 1, 3, 0, 2, 0, 15, 12, 1, 0, 2, 0, 16, 0,
        2, 0, 0, 1, 8, 0, 3, 0, 14, 2, 17, 0};
    static final int[] SUM = {1, 1, 1, 2, 7, 0, 17, 0};
    // What is there * 31 + the next: tells the order of the values.
    static final int[] ORDER = {1, 1, 0, 31, 9, 0, 1, 2, 7, 0, 17, 0};
    static final int[] FIRST = {1, 1, 17, 0};
    static final int[] ENDLESS = {14, 0};

    private final boolean tells;
    private int answers = 0;
    private int wrong = 0;

    Tester() {
        this(true);
    }

    /** One that does not tell keeps the number of wrong answers alone. */
    Tester(boolean tells) {
        this.tells = tells;
    }

    void due(String call, long got, long want) {
        answers++;
        if (got != want) {
            wrong++;
            if (tells) {
                System.out.println(call + " answered " + got + ", due is " + want);
            }
        }
    }

    int answers() {
        return answers;
    }

    int wrongAnswers() {
        return wrong;
    }

    /** Ends the test, with exit code 1 if an answer was wrong. */
    void end() {
        System.out.println(wrong + " of " + answers + " answers are not as due");
        if (wrong != 0) {
            System.exit(1);
        }
    }

    /** Puts a program in the place of the one there is: ops and their n by turns. */
    void load(GrindField x, int program, int... code) {
        x.clear(program);
        for (int i = 0; i < code.length; i += 2) {
            due("code " + i / 2, x.code(program, code[i], code[i + 1]), i / 2);
        }
    }

    /** What check answers for a program alone on a new object. */
    void checked(String name, int want, int program, int... code) {
        GrindField x = new GrindField(1, 1, 1);
        load(x, program, code);
        due("check of " + name + " in program " + program, x.check(program), want);
    }

    /** A new object with MAP, FOLD and no records. */
    GrindField field(int size, int[] map, int[] fold) {
        GrindField x = new GrindField(size, 3, 4);
        load(x, MAP, map);
        load(x, FOLD, fold);
        return x;
    }

    /** Records come: keys and values by turns. */
    void records(GrindField x, int... pairs) {
        for (int i = 0; i < pairs.length; i += 2) {
            x.record(pairs[i], pairs[i + 1]);
        }
    }

    /** The value of the only result of a record under a MAP that sends one pair. */
    long mapped(int key, int value, int... map) {
        GrindField x = field(1, map, FIRST);
        x.record(key, value);
        due("run", x.run(0), 1);
        return x.result(0, 1);
    }

    /** What a MAP alone does with a record: one pair of this key and value. */
    void maps(String name, int key, int value, int wantKey, int wantValue, int... map) {
        GrindField x = field(1, map, FIRST);
        x.record(key, value);
        due(name + ": run", x.run(0), 1);
        results(name, x, wantKey, wantValue);
    }

    /** What an op makes of the two on top in MAP. */
    void combines(int lower, int op, int upper, int want) {
        String name = lower + " op " + op + " " + upper;
        due(name, mapped(lower, upper, 0, 0, 1, 0, 1, 1, op, 0, 16, 0, 17, 0), want);
    }

    /** The program that takes so many steps in all: 5 for each round of a loop, the rest by 14. */
    static int[] stepping(int steps) {
        int pads = (steps - 4) % 5;
        int[] code = new int[2 * (pads + 7)];
        for (int i = 0; i < pads; i++) {
            code[2 * i] = 14;
            code[2 * i + 1] = i + 1;
        }
        int[] loop = {0, (steps - 4) / 5, 4, 0, 15, pads + 6, 0, 1, 8, 0, 14, pads + 1, 17, 0};
        System.arraycopy(loop, 0, code, 2 * pads, loop.length);
        return code;
    }

    /** So many numbers come on the stack, then these instructions. */
    static int[] behind(int height, int... rest) {
        int[] code = new int[2 * height + rest.length];
        for (int i = 0; i < height; i++) {
            code[2 * i + 1] = i + 1;
        }
        System.arraycopy(rest, 0, code, 2 * height, rest.length);
        return code;
    }

    /** The results are these and no more: keys and values by turns. */
    void results(String name, GrindField x, int... pairs) {
        for (int i = 0; i < pairs.length; i += 2) {
            due(name + ": key " + i / 2, x.result(i / 2, 0), pairs[i]);
            due(name + ": value " + i / 2, x.result(i / 2, 1), pairs[i + 1]);
            due(name + ": valueOf(" + pairs[i] + ")", x.valueOf(pairs[i]), pairs[i + 1]);
        }
        due(name + ": behind the last", x.result(pairs.length / 2, 0), NO_VALUE);
        due(name + ": behind the last", x.result(pairs.length / 2, 1), NO_VALUE);
    }

    /** A run that answers with these results: keys and values by turns. */
    void runs(String name, GrindField x, int... pairs) {
        due(name + ": run", x.run(0), pairs.length / 2);
        results(name, x, pairs);
    }

    /** What count answers from 0 on. */
    void counts(String name, GrindField x, int... wants) {
        for (int what = 0; what < wants.length; what++) {
            due(name + ": count(" + what + ")", x.count(what), wants[what]);
        }
    }

    /** No results, this error, and 0 for the counts of the run. */
    void failed(String name, GrindField x, int error) {
        due(name + ": run", x.run(0), GrindField.FAILED);
        results(name, x);
        counts(name, x, error, 0, 0, 0, 0, 0, 0, 0);
    }
}
