/** Promise 6: the first WRONG instruction of a program. */
public final class CheckTest {
    private static final int GOOD = GrindField.NONE;
    private static final int MAP = Tester.MAP, JOIN = Tester.JOIN;
    private static final int FOLD = Tester.FOLD, END = Tester.END;
    private static final int[] ALL = {MAP, JOIN, FOLD, END};
    // By op from 0 to 18: how many it needs, and how many it leaves of these.
    private static final int[] NEEDS = {0, 0, 0, 1, 1, 2, 1, 2, 2, 2, 2, 2, 2, 2, 0, 1, 2, 1, 0};
    private static final int[] LEAVES = {1, 1, 1, 0, 2, 2, 0, 1, 1, 1, 1, 1, 1, 1, 0, 0, 0, 1, 0};

    public static void main(String[] args) {
        Tester t = new Tester();
        emptyAndOthers(t);
        ops(t);
        argumentsAndLocals(t);
        jumps(t);
        anyNOfOthers(t);
        needs(t);
        tooMany(t);
        missingNext(t);
        heights(t);
        endsOfWays(t);
        waysOfSeveralHeights(t);
        unreachable(t);
        longest(t);
        manyWays(t);
        followsCode(t);
        t.end();
    }

    private static void emptyAndOthers(Tester t) {
        GrindField x = new GrindField(1, 1, 1);
        for (int program : ALL) {
            t.due("check of none", x.check(program), 64);
        }
        int[] others = {Integer.MIN_VALUE, -1, 4, 64, Integer.MAX_VALUE};
        for (int other : others) {
            t.due("check of " + other, x.check(other), GrindField.REFUSED);
        }
    }

    private static void ops(Tester t) {
        int[] none = {Integer.MIN_VALUE, -1, 19, 20, Integer.MAX_VALUE};
        for (int program : ALL) {
            for (int op : none) {
                t.checked("op " + op, 0, program, op, 0, 0, 1, 17, 0);
                t.checked("op " + op + " unreachable", 2, program, 0, 1, 17, 0, op, 0, 17, 0);
            }
            int emit = program == MAP ? GOOD : 2;
            t.checked("op 16", emit, program, 0, 1, 0, 1, 16, 0, 0, 1, 17, 0);
            t.checked("op 16 unreachable", emit, program, 0, 1, 17, 0, 16, 0);
            int leaveOut = program == END ? GOOD : 0;
            t.checked("op 18", leaveOut, program, 18, 0);
            t.checked("op 18 unreachable", leaveOut == GOOD ? GOOD : 2, program,
                0, 1, 17, 0, 18, 0);
        }
    }

    private static void argumentsAndLocals(Tester t) {
        int[] ns = {Integer.MIN_VALUE, -1, 0, 1, 2, 3, 4, 64, Integer.MAX_VALUE};
        for (int program : ALL) {
            int arguments = program == JOIN || program == FOLD ? 3 : 2;
            for (int n : ns) {
                boolean argument = n >= 0 && n < arguments;
                boolean local = n >= 0 && n < 4;
                t.checked("argument " + n, argument ? GOOD : 0, program, 1, n, 17, 0);
                t.checked("local " + n, local ? GOOD : 0, program, 2, n, 17, 0);
                t.checked("to local " + n, local ? GOOD : 1, program, 0, 1, 3, n, 0, 1, 17, 0);
                t.checked("unreachable argument " + n, argument ? GOOD : 2, program,
                    0, 1, 17, 0, 1, n);
                t.checked("unreachable local " + n, local ? GOOD : 2, program,
                    0, 1, 17, 0, 2, n);
                t.checked("unreachable to local " + n, local ? GOOD : 2, program,
                    0, 1, 17, 0, 3, n);
            }
        }
    }

    private static void jumps(Tester t) {
        int[] ns = {Integer.MIN_VALUE, -1, 4, 5, 63, 64, Integer.MAX_VALUE};
        for (int program : ALL) {
            for (int n : ns) {
                t.checked("go to " + n, 1, program, 0, 1, 14, n, 0, 1, 17, 0);
                t.checked("go if 0 to " + n, 1, program, 0, 1, 15, n, 0, 1, 17, 0);
                t.checked("unreachable go to " + n, 2, program, 0, 1, 17, 0, 14, n, 17, 0);
                t.checked("unreachable go if 0 to " + n, 2, program, 0, 1, 17, 0, 15, n, 17, 0);
            }
            t.checked("go to itself", GOOD, program, 14, 0);
            t.checked("go to the last", GOOD, program, 0, 1, 14, 3, 6, 0, 17, 0);
            t.checked("go back", GOOD, program, 0, 1, 0, 1, 15, 1, 14, 1);
            t.checked("go if 0 to the next", GOOD, program, 0, 1, 15, 2, 0, 1, 17, 0);
        }
    }

    private static void anyNOfOthers(Tester t) {
        int[] ns = {Integer.MIN_VALUE, -1, 64, Integer.MAX_VALUE};
        for (int n : ns) {
            t.checked("any n", GOOD, MAP, 0, n, 4, n, 5, n, 6, n, 0, n, 7, n, 0, n, 8, n, 0, n,
                9, n, 0, n, 10, n, 0, n, 11, n, 0, n, 12, n, 0, n, 13, n, 4, n, 16, n, 17, n);
            t.checked("any n of 18", GOOD, END, 18, n);
        }
    }

    /** Each op with just what it needs, and with one less. */
    private static void needs(Tester t) {
        for (int program : ALL) {
            for (int op = 0; op <= 18; op++) {
                if (op == 16 && program != MAP || op == 18 && program != END) {
                    continue;
                }
                int need = op == 17 && program == MAP ? 0 : NEEDS[op];
                t.checked("op " + op + " with " + need, GOOD, program, withHeight(need, op));
                if (need > 0) {
                    t.checked("op " + op + " with too few", need - 1, program,
                        withHeight(need - 1, op));
                }
            }
        }
    }

    /** So many numbers, the op, then drops of all that must be there and an end. */
    private static int[] withHeight(int height, int op) {
        int left = Math.max(0, height - NEEDS[op] + LEAVES[op]);
        int[] code = new int[2 * (height + 1 + left + 2)];
        int at = 2 * height;
        code[at] = op;
        // To the next one, for 14 and 15; no argument is so great.
        code[at + 1] = op == 14 || op == 15 ? height + 1 : 0;
        for (int i = 0; i < left; i++) {
            code[at + 2 + 2 * i] = 6;
        }
        code[code.length - 4] = 0;
        code[code.length - 2] = 17;
        return code;
    }

    private static void tooMany(Tester t) {
        int[] pushes = {0, 1, 2, 4};
        int[] keeps = {3, 5, 6, 7, 8, 9, 10, 11, 12, 13};
        for (int program : ALL) {
            for (int op : pushes) {
                t.checked("op " + op + " behind 7", GOOD, program, full(7, op));
                t.checked("op " + op + " behind 8", 8, program, full(8, op));
            }
            for (int op : keeps) {
                t.checked("op " + op + " behind 8", GOOD, program, full(8, op));
            }
        }
        t.checked("15 behind 8", GOOD, MAP,
            0, 0, 0, 0, 0, 0, 0, 0, 0, 0, 0, 0, 0, 0, 0, 0, 15, 9, 17, 0);
        t.checked("14 behind 8", GOOD, MAP,
            0, 0, 0, 0, 0, 0, 0, 0, 0, 0, 0, 0, 0, 0, 0, 0, 14, 9, 17, 0);
        t.checked("16 behind 8", GOOD, MAP, full(8, 16));
        t.checked("17 behind 8", GOOD, JOIN, full(8, 17));
        t.checked("18 behind 8", GOOD, END, full(8, 18));
    }

    private static int[] full(int height, int op) {
        int[] code = new int[2 * (height + 2)];
        code[2 * height] = op;
        code[2 * height + 2] = 17;
        return code;
    }

    private static void missingNext(Tester t) {
        t.checked("number at the end", 0, MAP, 0, 1);
        t.checked("emit at the end", 2, MAP, 0, 1, 0, 1, 16, 0);
        t.checked("15 at the end", 1, MAP, 0, 1, 15, 0);
        t.checked("drop at the end", 2, FOLD, 0, 1, 0, 1, 6, 0);
        t.checked("14 at the end", GOOD, JOIN, 0, 1, 6, 0, 14, 0);
        t.checked("17 at the end", GOOD, JOIN, 0, 1, 17, 0);
        t.checked("18 at the end", GOOD, END, 0, 1, 18, 0);
        t.checked("last one jumped to", 2, JOIN, 14, 2, 17, 0, 0, 1);
    }

    private static void heights(Tester t) {
        t.checked("heights 0 and 1", 3, MAP, 0, 1, 15, 3, 0, 5, 17, 0);
        t.checked("heights 1 and 2", 4, FOLD, 0, 7, 0, 1, 15, 4, 0, 5, 17, 0);
        t.checked("same heights", GOOD, FOLD, 0, 1, 15, 4, 0, 5, 17, 0, 0, 6, 17, 0);
        t.checked("a loop that grows", 0, MAP, 0, 1, 14, 0);
        t.checked("a loop that keeps", GOOD, MAP, 0, 1, 6, 0, 14, 0);
        t.checked("first one again with another", 0, MAP, 0, 0, 0, 0, 15, 0, 17, 0);
        t.checked("both ways of 15", 2, JOIN, 0, 1, 15, 4, 17, 0, 17, 0, 17, 0);
        t.checked("both ways of 15, other one", 4, JOIN, 0, 1, 15, 4, 0, 1, 17, 0, 17, 0);
        t.checked("first of several", 1, MAP, 14, 2, 99, 0, 6, 0, 17, 0);
    }

    /** Behind a WRONG instruction there is no way to 1, which would be WRONG then. */
    private static void endsOfWays(Tester t) {
        t.checked("behind the op", 2, JOIN, 14, 2, 17, 0, 99, 0, 14, 1);
        t.checked("behind 16 in JOIN", 4, JOIN, 14, 2, 17, 0, 0, 0, 0, 0, 16, 0, 14, 1);
        t.checked("behind an argument", 2, JOIN, 14, 2, 17, 0, 1, 3, 6, 0, 14, 1);
        t.checked("behind a local", 2, JOIN, 14, 2, 17, 0, 2, 4, 6, 0, 14, 1);
        t.checked("behind a go if 0", 3, JOIN, 14, 2, 17, 0, 0, 1, 15, 9, 14, 1);
        t.checked("behind too few", 2, JOIN, 14, 2, 17, 0, 5, 0, 14, 1);
        t.checked("behind too many", 10, MAP, 14, 2, 0, 5, 0, 0, 0, 0, 0, 0, 0, 0,
            0, 0, 0, 0, 0, 0, 0, 0, 4, 0, 14, 1);
        t.checked("behind a missing next", 3, JOIN, 14, 2, 17, 0, 0, 1, 15, 1);
        t.checked("behind none of these", 1, JOIN, 14, 2, 17, 0, 0, 1, 15, 1, 14, 1);
        t.checked("behind 17", GOOD, JOIN, 0, 1, 17, 0, 14, 3, 17, 0);
        t.checked("behind 18", GOOD, END, 18, 0, 17, 0);
    }

    private static void waysOfSeveralHeights(Tester t) {
        // 6 is reached with 1 and 0, and goes on to 1 with both.
        t.checked("both heights go on", 1, JOIN, 14, 2, 17, 0, 0, 1, 0, 0, 15, 6, 6, 0, 14, 1);
        // 8 is reached with 2 and 1, and goes on to 1 with 2 alone.
        t.checked("one height goes on", 8, MAP, 14, 3, 8, 0, 17, 0, 0, 1, 0, 1, 0, 0, 15, 8,
            6, 0, 5, 0, 14, 1);
        // 13 is reached with 7 and 8, and goes on to 1 with 7 alone, one more there.
        t.checked("one height is too many", 13, MAP, 14, 3, 6, 0, 17, 0,
            0, 0, 0, 0, 0, 0, 0, 0, 0, 0, 0, 0, 0, 0, 0, 0, 15, 13, 0, 0, 0, 1, 14, 1);
    }

    private static void unreachable(Tester t) {
        t.checked("too few", GOOD, JOIN, 0, 1, 17, 0, 7, 0, 6, 0, 5, 0, 17, 0);
        t.checked("missing next", GOOD, MAP, 17, 0, 0, 1);
        t.checked("another height", GOOD, MAP, 17, 0, 0, 1, 15, 4, 0, 1, 17, 0);
        t.checked("to a reached one", GOOD, MAP, 14, 3, 0, 1, 14, 3, 17, 0);
    }

    private static void longest(Tester t) {
        int[] code = new int[128];
        for (int i = 0; i < 62; i++) {
            code[2 * i] = i % 2 == 0 ? 0 : 6;
        }
        code[124] = 14;
        code[125] = 63;
        code[126] = 17;
        t.checked("64 instructions", GOOD, MAP, code);
        code[126] = 0;
        t.checked("64 instructions without end", 63, MAP, code);
        code[126] = 14;
        code[127] = 64;
        t.checked("go to 64 of 64", 63, MAP, code);
        code[127] = 63;
        t.checked("go to 63 of 64", GOOD, MAP, code);
    }

    /** Very many ways lead to the last instruction, each with the same height. */
    private static void manyWays(Tester t) {
        int[] code = new int[128];
        for (int i = 0; i < 62; i++) {
            code[2 * i] = i % 2 == 0 ? 0 : 15;
        }
        code[124] = 14;
        code[125] = 63;
        code[126] = 17;
        t.checked("many ways back", GOOD, MAP, code);
        t.checked("many ways back to too few", 63, FOLD, code);
    }

    private static void followsCode(Tester t) {
        GrindField x = new GrindField(1, 1, 1);
        t.load(x, MAP, 14, 1);
        t.due("check", x.check(MAP), 0);
        t.due("check again", x.check(MAP), 0);
        t.due("code", x.code(MAP, 0, 1), 1);
        t.due("check", x.check(MAP), 1);
        t.due("code", x.code(MAP, 17, 1), 2);
        t.due("check", x.check(MAP), GOOD);
        t.due("code", x.code(MAP, 18, 1), 3);
        t.due("check", x.check(MAP), 3);
        t.due("check of another", x.check(JOIN), 64);
    }
}
