import java.util.Arrays;

/**
 * A great sum divided over a field of workers: records are mapped, put together, shuffled and
 * folded by small programs that are checked before. What is told depends on the records, the
 * programs and the size of a split alone.
 */
public final class GrindField {
    public static final int REFUSED = -1, NONE = -2, FULL = -3, FAILED = -4;

    private static final int MAX_SIZE = 16;
    private static final int MAX_RECORDS = 120;
    private static final int MAX_CODE = 64;
    private static final int MAX_STACK = 8;
    private static final int MAX_LOCALS = 4;
    private static final int MAX_ARGUMENTS = 3;
    private static final int MAX_STEPS = 300;
    private static final int MAX_CALL_PAIRS = 20;
    private static final int MAX_PAIRS = 600;

    private static final int PROGRAMS = 4;
    private static final int MAP = 0, JOIN = 1, FOLD = 2, END = 3;

    private static final int OP_NUMBER = 0, OP_ARGUMENT = 1, OP_LOCAL = 2, OP_STORE = 3;
    private static final int OP_AGAIN = 4, OP_SWAP = 5, OP_DROP = 6;
    private static final int OP_ADD = 7, OP_SUBTRACT = 8, OP_MULTIPLY = 9, OP_DIVIDE = 10;
    private static final int OP_REMAINDER = 11, OP_LESS = 12, OP_SAME = 13;
    private static final int OP_GO = 14, OP_GO_IF_ZERO = 15, OP_EMIT = 16;
    private static final int OP_FINISH = 17, OP_LEAVE_OUT = 18;

    private static final int ANSWER_NO_CODE = 64;
    private static final long ANSWER_NO_VALUE = 1L << 40;

    private static final int NO_ERROR = -1;
    private static final int ERROR_JOIN = 1000, ERROR_FOLD = 2000, ERROR_END = 3000;
    private static final int ERROR_PAIRS = 4000;

    private static final int COUNT_ERROR = 0, COUNT_PAIRS = 1, COUNT_VALUES = 2, COUNT_KEYS = 3;
    // The steps of program p stand at COUNT_STEPS + p.
    private static final int COUNT_STEPS = 4;
    private static final int COUNT_RECORDS = 8, COUNT_SPLITS = 9;

    private final int size;
    private final PairRow records;
    private final Program[] programs;
    private final Checker checker;
    private final Job job;

    /** Workers and parts make no difference to what is told, so neither is kept. */
    public GrindField(int size, int workers, int parts) {
        this.size = Math.max(1, Math.min(MAX_SIZE, size));
        records = new PairRow(MAX_RECORDS);
        programs = new Program[PROGRAMS];
        for (int kind = 0; kind < PROGRAMS; kind++) {
            programs[kind] = new Program(kind);
        }
        checker = new Checker();
        job = new Job();
    }

    public int record(int key, int value) {
        return records.append(key, value) ? records.length - 1 : FULL;
    }

    public int wipe() {
        int before = records.length;
        records.length = 0;
        return before;
    }

    public int code(int program, int op, int n) {
        return isProgram(program) ? programs[program].append(op, n) : REFUSED;
    }

    public int clear(int program) {
        if (!isProgram(program)) {
            return REFUSED;
        }
        int before = programs[program].length;
        programs[program].length = 0;
        return before;
    }

    public int check(int program) {
        return isProgram(program) ? checker.firstWrong(programs[program]) : REFUSED;
    }

    /** One worker does it all, in order: no trouble can show in what is told. */
    public int run(int trouble) {
        if (!isGood(MAP) || !isGood(FOLD) || !isGoodOrEmpty(JOIN) || !isGoodOrEmpty(END)) {
            return NONE;
        }
        return job.perform(programs, records, size);
    }

    public long result(int k, int what) {
        if (k < 0 || k >= job.results.length) {
            return ANSWER_NO_VALUE;
        }
        if (what == 0) {
            return job.results.keys[k];
        }
        return what == 1 ? job.results.values[k] : ANSWER_NO_VALUE;
    }

    public long valueOf(int key) {
        int place = job.results.placeOf(key);
        return job.results.holds(place, key) ? job.results.values[place] : ANSWER_NO_VALUE;
    }

    public int count(int what) {
        if (what < COUNT_ERROR || what > COUNT_SPLITS) {
            return REFUSED;
        }
        if (what == COUNT_RECORDS) {
            return records.length;
        }
        return what == COUNT_SPLITS ? (records.length + size - 1) / size : job.counts[what];
    }

    private static boolean isProgram(int program) {
        return program >= 0 && program < PROGRAMS;
    }

    private static boolean isJump(int op) {
        return op == OP_GO || op == OP_GO_IF_ZERO;
    }

    /** Whether an op puts one in the place of the two on top. */
    private static boolean isCombination(int op) {
        return op >= OP_ADD && op <= OP_SAME;
    }

    private boolean isGood(int program) {
        return checker.firstWrong(programs[program]) == NONE;
    }

    private boolean isGoodOrEmpty(int program) {
        int wrong = checker.firstWrong(programs[program]);
        return wrong == NONE || wrong == ANSWER_NO_CODE;
    }

    /** Keys with values, in the order in which they came. */
    private static final class PairRow {
        final int[] keys;
        final int[] values;
        int length;

        PairRow(int room) {
            keys = new int[room];
            values = new int[room];
            length = 0;
        }

        /** False if there is no room. */
        boolean append(int key, int value) {
            if (length >= keys.length) {
                return false;
            }
            keys[length] = key;
            values[length] = value;
            length++;
            return true;
        }

        void appendAll(KeyTable table) {
            for (int i = 0; i < table.length; i++) {
                append(table.keys[i], table.values[i]);
            }
        }
    }

    /** Keys by rising number, each with one value. */
    private static final class KeyTable {
        // The greatest power of two that is not above MAX_PAIRS.
        static final int WIDEST_STRIDE = 512;

        final int[] keys = new int[MAX_PAIRS];
        final int[] values = new int[MAX_PAIRS];
        int length = 0;

        /** How many keys are less than this one: the place where it stands or would stand. */
        int placeOf(int key) {
            int place = 0;
            for (int stride = WIDEST_STRIDE; stride > 0; stride /= 2) {
                if (place + stride <= length && keys[place + stride - 1] < key) {
                    place += stride;
                }
            }
            return place;
        }

        boolean holds(int place, int key) {
            return place < length && keys[place] == key;
        }

        void insert(int place, int key, int value) {
            if (place > length || length >= MAX_PAIRS) {
                return;
            }
            System.arraycopy(keys, place, keys, place + 1, length - place);
            System.arraycopy(values, place, values, place + 1, length - place);
            keys[place] = key;
            values[place] = value;
            length++;
        }
    }

    /** A row of instructions of one kind: MAP, JOIN, FOLD or END. */
    private static final class Program {
        final int kind;
        final int[] ops = new int[MAX_CODE];
        final int[] ns = new int[MAX_CODE];
        int length = 0;

        Program(int kind) {
            this.kind = kind;
        }

        int append(int op, int n) {
            if (length >= MAX_CODE) {
                return FULL;
            }
            ops[length] = op;
            ns[length] = n;
            length++;
            return length - 1;
        }

        boolean has(int number) {
            return number >= 0 && number < length;
        }

        int argumentCount() {
            return kind == JOIN || kind == FOLD ? 3 : 2;
        }
    }

    /** Finds the WRONG instructions of a program before it is done. */
    private static final class Checker {
        static final int HEIGHTS = MAX_STACK + 1;
        // By op: how many it needs on the stack (FINISH is told apart), and by how much the
        // stack is higher behind it.
        static final int[] NEEDED =
            {0, 0, 0, 1, 1, 2, 1, 2, 2, 2, 2, 2, 2, 2, 0, 1, 2, 1, 0};
        static final int[] GROWTH =
            {1, 1, 1, -1, 1, 0, -1, -1, -1, -1, -1, -1, -1, -1, 0, -1, -2, 0, 0};

        // By instruction: bit h is set if it can be reached with height h.
        final int[] heights = new int[MAX_CODE];
        // What has been reached, as instruction * HEIGHTS + height, each once.
        final int[] reached = new int[MAX_CODE * HEIGHTS];
        int reachedCount = 0;

        int firstWrong(Program program) {
            if (program.length == 0) {
                return ANSWER_NO_CODE;
            }
            walk(program);
            for (int number = 0; number < program.length; number++) {
                if (isWrong(program, number)) {
                    return number;
                }
            }
            return NONE;
        }

        void walk(Program program) {
            Arrays.fill(heights, 0);
            reachedCount = 0;
            reach(0, 0);
            for (int i = 0; i < reachedCount && i < reached.length; i++) {
                goOn(program, reached[i] / HEIGHTS, reached[i] % HEIGHTS);
            }
        }

        void goOn(Program program, int number, int height) {
            if (isMisformed(program, number) || lacksNext(program, number)
                    || !fits(program, number, height)) {
                return;
            }
            int op = program.ops[number];
            int heightBehind = height + GROWTH[op];
            if (isJump(op)) {
                reach(program.ns[number], heightBehind);
            }
            if (hasNext(op)) {
                reach(number + 1, heightBehind);
            }
        }

        void reach(int number, int height) {
            if (number < 0 || number >= MAX_CODE || height < 0 || height > MAX_STACK) {
                return;
            }
            if (hasHeight(number, height) || reachedCount >= reached.length) {
                return;
            }
            heights[number] |= 1 << height;
            reached[reachedCount] = number * HEIGHTS + height;
            reachedCount++;
        }

        boolean hasHeight(int number, int height) {
            return (heights[number] >> height & 1) == 1;
        }

        boolean isWrong(Program program, int number) {
            if (isMisformed(program, number)) {
                return true;
            }
            if (heights[number] == 0) {
                return false;
            }
            return Integer.bitCount(heights[number]) > 1 || lacksNext(program, number)
                || !fitsEveryHeight(program, number);
        }

        boolean fitsEveryHeight(Program program, int number) {
            for (int height = 0; height < HEIGHTS; height++) {
                if (hasHeight(number, height) && !fits(program, number, height)) {
                    return false;
                }
            }
            return true;
        }

        /** Whether the stack has neither too few before nor too many behind the instruction. */
        boolean fits(Program program, int number, int height) {
            int op = program.ops[number];
            int needed = op == OP_FINISH && program.kind == MAP ? 0 : NEEDED[op];
            return height >= needed && height + GROWTH[op] <= MAX_STACK;
        }

        /** WRONG by its op or its n, whether it can be reached or not. */
        boolean isMisformed(Program program, int number) {
            int op = program.ops[number];
            int n = program.ns[number];
            if (op < OP_NUMBER || op > OP_LEAVE_OUT) {
                return true;
            }
            if (op == OP_EMIT) {
                return program.kind != MAP;
            }
            if (op == OP_LEAVE_OUT) {
                return program.kind != END;
            }
            if (op == OP_ARGUMENT) {
                return n < 0 || n >= program.argumentCount();
            }
            if (op == OP_LOCAL || op == OP_STORE) {
                return n < 0 || n >= MAX_LOCALS;
            }
            return isJump(op) && !program.has(n);
        }

        boolean lacksNext(Program program, int number) {
            return hasNext(program.ops[number]) && !program.has(number + 1);
        }

        static boolean hasNext(int op) {
            return op != OP_GO && op != OP_FINISH && op != OP_LEAVE_OUT;
        }
    }

    /** The small machine: does one call of a GOOD program at a time. */
    private static final class Machine {
        static final int CALL_FAILED = 0, CALL_FINISHED = 1, CALL_LEFT_OUT = 2;

        final int[] arguments = new int[MAX_ARGUMENTS];
        final int[] locals = new int[MAX_LOCALS];
        final int[] stack = new int[MAX_STACK];
        int height = 0;
        // The result of the latest call, if it has one.
        int answer = 0;
        // The pairs of all calls, and how many the latest call has sent.
        final PairRow pairs = new PairRow(MAX_PAIRS);
        int emitted = 0;
        // The steps of all calls that have not failed, by kind of program.
        final int[] steps = new int[PROGRAMS];

        void forget() {
            pairs.length = 0;
            Arrays.fill(steps, 0);
        }

        /** Does a call and tells how it came to its end. */
        int call(Program program, int first, int second, int third) {
            begin(first, second, third);
            int at = 0;
            for (int step = 1; step <= MAX_STEPS && program.has(at); step++) {
                int op = program.ops[at];
                int n = program.ns[at];
                if (op == OP_FINISH || op == OP_LEAVE_OUT) {
                    steps[program.kind] += step;
                    answer = pop();
                    return op == OP_FINISH ? CALL_FINISHED : CALL_LEFT_OUT;
                }
                if (op == OP_EMIT && emitted >= MAX_CALL_PAIRS) {
                    return CALL_FAILED;
                }
                if (isJump(op)) {
                    at = jump(op, n, at);
                    continue;
                }
                if (isCombination(op)) {
                    combine(op);
                } else {
                    move(op, n);
                }
                at++;
            }
            return CALL_FAILED;
        }

        void begin(int first, int second, int third) {
            arguments[0] = first;
            arguments[1] = second;
            arguments[2] = third;
            Arrays.fill(locals, 0);
            height = 0;
            emitted = 0;
        }

        /** The number of the next instruction. */
        int jump(int op, int n, int at) {
            if (op == OP_GO_IF_ZERO && pop() != 0) {
                return at + 1;
            }
            return n;
        }

        void combine(int op) {
            int upper = pop();
            int lower = pop();
            push(combined(op, lower, upper));
        }

        static int combined(int op, int lower, int upper) {
            switch (op) {
                case OP_ADD:
                    return lower + upper;
                case OP_SUBTRACT:
                    return lower - upper;
                case OP_MULTIPLY:
                    return lower * upper;
                case OP_DIVIDE:
                    return upper == 0 ? 0 : lower / upper;
                case OP_REMAINDER:
                    return upper == 0 ? 0 : lower % upper;
                case OP_LESS:
                    return lower < upper ? 1 : 0;
                default:
                    return lower == upper ? 1 : 0;
            }
        }

        void move(int op, int n) {
            switch (op) {
                case OP_NUMBER:
                    push(n);
                    break;
                case OP_ARGUMENT:
                    push(n >= 0 && n < MAX_ARGUMENTS ? arguments[n] : 0);
                    break;
                case OP_LOCAL:
                    push(n >= 0 && n < MAX_LOCALS ? locals[n] : 0);
                    break;
                case OP_STORE:
                    store(n, pop());
                    break;
                case OP_AGAIN:
                    int top = pop();
                    push(top);
                    push(top);
                    break;
                case OP_SWAP:
                    int upper = pop();
                    int lower = pop();
                    push(upper);
                    push(lower);
                    break;
                case OP_DROP:
                    pop();
                    break;
                default:
                    emit();
                    break;
            }
        }

        void emit() {
            int value = pop();
            int key = pop();
            emitted++;
            // Pairs beyond the room of the row need only be counted: with them the job fails.
            pairs.append(key, value);
        }

        void store(int n, int value) {
            if (n >= 0 && n < MAX_LOCALS) {
                locals[n] = value;
            }
        }

        void push(int value) {
            if (height < MAX_STACK) {
                stack[height] = value;
                height++;
            }
        }

        int pop() {
            if (height <= 0) {
                return 0;
            }
            height--;
            return stack[height];
        }
    }

    /** The latest run: its results, its error and its counts. */
    private static final class Job {
        final Machine machine = new Machine();
        // How many pairs there are up to the end of each split.
        final int[] splitEnds = new int[MAX_RECORDS];
        final KeyTable splitTable = new KeyTable();
        final PairRow joined = new PairRow(MAX_PAIRS);
        final KeyTable results = new KeyTable();
        final int[] counts = new int[COUNT_STEPS + PROGRAMS];

        Job() {
            counts[COUNT_ERROR] = NO_ERROR;
        }

        /** Does the job with programs that are checked: how many results, or FAILED. */
        int perform(Program[] programs, PairRow records, int size) {
            forget(NO_ERROR);
            int splits = (records.length + size - 1) / size;
            int error = mapRecords(programs[MAP], records, size);
            PairRow values = machine.pairs;
            if (error == NO_ERROR && programs[JOIN].length > 0) {
                error = joinSplits(programs[JOIN], splits);
                values = joined;
            }
            if (error == NO_ERROR) {
                error = foldValues(programs[FOLD], values);
            }
            if (error == NO_ERROR && programs[END].length > 0) {
                error = endKeys(programs[END]);
            }
            if (error != NO_ERROR) {
                forget(error);
                return FAILED;
            }
            System.arraycopy(machine.steps, 0, counts, COUNT_STEPS, PROGRAMS);
            return results.length;
        }

        void forget(int error) {
            machine.forget();
            joined.length = 0;
            results.length = 0;
            Arrays.fill(counts, 0);
            counts[COUNT_ERROR] = error;
        }

        int mapRecords(Program map, PairRow records, int size) {
            for (int i = 0; i < records.length; i++) {
                int ending = machine.call(map, records.keys[i], records.values[i], 0);
                if (ending == Machine.CALL_FAILED) {
                    return i;
                }
                counts[COUNT_PAIRS] += machine.emitted;
                splitEnds[i / size] = machine.pairs.length;
            }
            return counts[COUNT_PAIRS] > MAX_PAIRS ? ERROR_PAIRS : NO_ERROR;
        }

        int joinSplits(Program join, int splits) {
            int start = 0;
            for (int split = 0; split < splits; split++) {
                splitTable.length = 0;
                if (!merge(join, splitTable, machine.pairs, start, splitEnds[split])) {
                    return ERROR_JOIN + split;
                }
                joined.appendAll(splitTable);
                start = splitEnds[split];
            }
            return NO_ERROR;
        }

        int foldValues(Program fold, PairRow values) {
            counts[COUNT_VALUES] = values.length;
            if (!merge(fold, results, values, 0, values.length)) {
                return ERROR_FOLD;
            }
            counts[COUNT_KEYS] = results.length;
            return NO_ERROR;
        }

        /** Makes the values of each key in a stretch of a row one: false if a call fails. */
        boolean merge(Program program, KeyTable table, PairRow row, int start, int end) {
            for (int i = start; i < end; i++) {
                int key = row.keys[i];
                int place = table.placeOf(key);
                if (!table.holds(place, key)) {
                    table.insert(place, key, row.values[i]);
                    continue;
                }
                int ending = machine.call(program, key, table.values[place], row.values[i]);
                if (ending == Machine.CALL_FAILED) {
                    return false;
                }
                table.values[place] = machine.answer;
            }
            return true;
        }

        int endKeys(Program end) {
            int kept = 0;
            for (int i = 0; i < results.length; i++) {
                int ending = machine.call(end, results.keys[i], results.values[i], 0);
                if (ending == Machine.CALL_FAILED) {
                    return ERROR_END;
                }
                if (ending == Machine.CALL_FINISHED) {
                    results.keys[kept] = results.keys[i];
                    results.values[kept] = machine.answer;
                    kept++;
                }
            }
            results.length = kept;
            return NO_ERROR;
        }
    }
}
