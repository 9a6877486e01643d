import java.util.List;

/** What 'Terms' says of PROGRAMS, their STACK, LOCALS and ARGUMENTS. */
final class ProgramBoundaries {
    private static final int MAP = Tester.MAP, JOIN = Tester.JOIN, FOLD = Tester.FOLD, END = Tester.END;
    private static final int LEAST = Tester.LEAST, GREATEST = Tester.GREATEST;
    // argument 0 * 10000 + argument 1 * 100 + argument 2
    private static final int[] THREE = {1, 0, 0, 10000, 9, 0, 1, 1, 0, 100, 9, 0, 7, 0, 1, 2, 7, 0, 17, 0};

    private static final String MERGE_CALL = "machine.call(program, key, table.values[place], row.values[i])";

    private ProgramBoundaries() {
    }

    static List<Boundary> all() {
        return List.of(
            new Boundary("PROGRAMS 0 MAP, 1 JOIN, 2 FOLD, 3 END", "four rows that are apart",
                ProgramBoundaries::fourRows)
                .broken("programs[program].append(op, n)", "programs[program & 1].append(op, n)")
                .broken("programs[kind] = new Program(kind);",
                    "programs[kind] = kind == 3 ? programs[2] : new Program(kind);"),
            new Boundary("each a row of at most 64 INSTRUCTIONS", "the 64th comes, the 65th does not",
                ProgramBoundaries::atMost64)
                .broken("MAX_CODE = 64", "MAX_CODE = 63")
                .broken("MAX_CODE = 64", "MAX_CODE = 65"),
            new Boundary("each a row of at most 64 INSTRUCTIONS", "instruction 63 is done",
                ProgramBoundaries::the64thIsDone)
                .broken("program.has(at); step++", "program.has(at) && at < 63; step++"),
            new Boundary("none at first", "a new program has none", ProgramBoundaries::noneAtFirst)
                .broken("final int[] ns = new int[MAX_CODE];\n        int length = 0;",
                    "final int[] ns = new int[MAX_CODE];\n        int length = 1;"),
            new Boundary("on a STACK of at most 8 ints", "8 are held, each in its place",
                ProgramBoundaries::stackOf8)
                .broken("MAX_STACK = 8", "MAX_STACK = 7")
                .broken("stack[height] = value;", "stack[Math.min(6, height)] = value;")
                .broken("stack[height] = value;", "stack[height] = (short) value;"),
            new Boundary("on a STACK of at most 8 ints", "9 are not held", ProgramBoundaries::noStackOf9)
                .broken("MAX_STACK = 8", "MAX_STACK = 9"),
            new Boundary("on a STACK of at most 8 ints (none at first)", "none can be taken at first",
                ProgramBoundaries::emptyStack)
                .broken("reach(0, 0);", "reach(0, 1);"),
            new Boundary("with LOCALS 0 to 3", "0 and 3 are there, and each is its own",
                ProgramBoundaries::fourLocals)
                .broken("MAX_LOCALS = 4", "MAX_LOCALS = 3")
                .broken("locals[n] = value;", "locals[Math.min(2, n)] = value;"),
            new Boundary("with LOCALS 0 to 3", "-1 and 4 are not there", ProgramBoundaries::noMoreLocals)
                .broken("MAX_LOCALS = 4", "MAX_LOCALS = 5")
                .broken("return n < 0 || n >= MAX_LOCALS;", "return n >= MAX_LOCALS;"),
            new Boundary("(0 at first)", "each local of each program", ProgramBoundaries::localsAtFirst)
                .broken("Arrays.fill(locals, 0);", "Arrays.fill(locals, 1);")
                .broken("Arrays.fill(locals, 0);", "Arrays.fill(locals, 0); locals[3] = first;"),
            new Boundary("from its first instruction on", "the first is done before the second",
                ProgramBoundaries::fromTheFirst)
                .broken("int at = 0;", "int at = 1;"),
            new Boundary("MAP has the key and value of a record", "two, with any ints",
                ProgramBoundaries::ofMap)
                .broken("machine.call(map, records.keys[i], records.values[i], 0)",
                    "machine.call(map, records.values[i], records.keys[i], 0)")
                .broken("arguments[0] = first;", "arguments[0] = (short) first;")
                .broken("arguments[1] = second;", "arguments[1] = (short) second;"),
            new Boundary("JOIN and FOLD a key, a value from before, another one", "three of JOIN",
                ProgramBoundaries::ofJoin)
                .broken(MERGE_CALL, "machine.call(program, key, row.values[i], table.values[place])")
                .broken(MERGE_CALL, "machine.call(program, 0, table.values[place], row.values[i])")
                .broken("arguments[2] = third;", "arguments[2] = (short) third;"),
            new Boundary("JOIN and FOLD a key, a value from before, another one", "three of FOLD",
                ProgramBoundaries::ofFold)
                .broken(MERGE_CALL, "machine.call(program, key, row.values[i], table.values[place])")
                .broken(MERGE_CALL, "machine.call(program, 0, table.values[place], row.values[i])")
                .broken("arguments[2] = third;", "arguments[2] = (short) third;"),
            new Boundary("END a key and a value", "two, with any ints", ProgramBoundaries::ofEnd)
                .broken("machine.call(end, results.keys[i], results.values[i], 0)",
                    "machine.call(end, results.values[i], results.keys[i], 0)"));
    }

    private static void fourRows(Tester t) {
        GrindField x = new GrindField(1, 1, 1);
        for (int program : Tester.ALL) {
            for (int i = 0; i <= program; i++) {
                t.due("code of " + program, x.code(program, 14, 0), i);
            }
        }
        for (int program : Tester.ALL) {
            t.due("clear of " + program, x.clear(program), program + 1);
        }
    }

    private static void atMost64(Tester t) {
        for (int program : Tester.ALL) {
            GrindField x = new GrindField(1, 1, 1);
            for (int i = 0; i < 64; i++) {
                t.due("code " + i, x.code(program, 14, i), i);
            }
            t.due("code 64", x.code(program, 14, 0), GrindField.FULL);
            t.due("code 64 again", x.code(program, 99, 0), GrindField.FULL);
            t.due("check", x.check(program), Tester.GOOD);
            t.due("clear", x.clear(program), 64);
        }
    }

    private static void the64thIsDone(Tester t) {
        int[] code = new int[128];
        for (int i = 0; i < 63; i++) {
            code[2 * i] = 14;
            code[2 * i + 1] = i + 1;
        }
        code[126] = 17;
        GrindField x = t.field(1, code, Tester.SUM);
        x.record(1, 1);
        t.runs("64 instructions", x);
        t.due("steps of MAP", x.count(4), 64);
    }

    private static void noneAtFirst(Tester t) {
        GrindField x = new GrindField(1, 1, 1);
        for (int program : Tester.ALL) {
            t.due("check", x.check(program), 64);
            t.due("clear", x.clear(program), 0);
            t.due("code", x.code(program, 14, 0), 0);
        }
    }

    /** 8 numbers, each the double of that below and one more, taken off one by one. */
    private static void stackOf8(Tester t) {
        int[] code = Tester.behind(8, 8, 0, 8, 0, 8, 0, 8, 0, 8, 0, 8, 0, 8, 0, 17, 0);
        // 1 - (2 - (3 - (4 - (5 - (6 - (7 - 8))))))
        GrindField x = t.field(1, Tester.SAME_PAIR, code);
        t.records(x, 1, 1, 1, 1);
        t.runs("8 numbers", x, 1, -4);
        int[] great = new int[2 * 8 + 16];
        for (int i = 0; i < 8; i++) {
            great[2 * i + 1] = GREATEST - i;
        }
        for (int i = 0; i < 7; i++) {
            great[16 + 2 * i] = 6;
        }
        great[30] = 17;
        t.load(x, FOLD, great);
        t.runs("the lowest of 8", x, 1, GREATEST);
    }

    private static void noStackOf9(Tester t) {
        for (int program : Tester.ALL) {
            t.checked("8 numbers", Tester.GOOD, program, Tester.behind(8, 17, 0));
            t.checked("9 numbers", 8, program, Tester.behind(9, 17, 0));
        }
    }

    private static void emptyStack(Tester t) {
        for (int program : Tester.ALL) {
            t.checked("6 at first", 0, program, 6, 0, 14, 0);
            t.checked("8 numbers at first", Tester.GOOD, program, Tester.behind(8, 17, 0));
        }
    }

    private static void fourLocals(Tester t) {
        int[] map = {0, 1, 3, 0, 0, 2, 3, 1, 0, 3, 3, 2, 0, 4, 3, 3,
            0, 0, 2, 0, 0, 10, 9, 0, 2, 1, 7, 0, 0, 10, 9, 0, 2, 2, 7, 0, 0, 10, 9, 0, 2, 3, 7, 0,
            16, 0, 17, 0};
        t.due("check", t.field(1, map, Tester.SUM).check(MAP), Tester.GOOD);
        t.maps("four locals", 5, 6, 0, 1234, map);
    }

    private static void noMoreLocals(Tester t) {
        int[] others = {LEAST, -1, 4, GREATEST};
        for (int program : Tester.ALL) {
            for (int other : others) {
                t.checked("local " + other, 0, program, 2, other, 17, 0);
                t.checked("to local " + other, 1, program, 0, 1, 3, other, 0, 1, 17, 0);
            }
        }
    }

    private static void localsAtFirst(Tester t) {
        for (int local = 0; local <= 3; local++) {
            t.maps("local of MAP", 5, 6, 5, 0, 1, 0, 2, local, 16, 0, 17, 0);
            int[] one = {2, local, 17, 0};
            GrindField x = t.field(2, Tester.SAME_PAIR, one);
            t.records(x, 7, 8, 7, 9);
            t.runs("local of FOLD", x, 7, 0);
            t.load(x, FOLD, Tester.FIRST);
            t.load(x, JOIN, one);
            t.runs("local of JOIN", x, 7, 0);
            t.load(x, JOIN);
            t.load(x, END, one);
            t.runs("local of END", x, 7, 0);
        }
    }

    private static void fromTheFirst(Tester t) {
        t.maps("the first of MAP", 1, 1, 7, 9, 0, 7, 0, 9, 16, 0, 17, 0);
        GrindField x = t.field(1, new int[] {17, 0}, new int[] {14, 0});
        t.load(x, END, 18, 0);
        x.record(1, 1);
        t.runs("one instruction alone", x);
        t.due("steps of MAP", x.count(4), 1);
    }

    private static void ofMap(Tester t) {
        t.maps("key and value", 5, 6, 5, 6, Tester.SAME_PAIR);
        t.maps("edges", LEAST, GREATEST, LEAST, GREATEST, Tester.SAME_PAIR);
        t.maps("edges", GREATEST, LEAST, GREATEST, LEAST, Tester.SAME_PAIR);
    }

    private static void ofJoin(Tester t) {
        GrindField x = t.field(2, Tester.SAME_PAIR, Tester.FIRST);
        t.load(x, JOIN, THREE);
        t.records(x, 7, 8, 7, 9);
        t.runs("three", x, 7, 70809);
        t.load(x, JOIN, 1, 2, 17, 0);
        t.records(x, 8, 1, 8, LEAST, 9, 1, 9, GREATEST);
        t.runs("edges", x, 7, 9, 8, LEAST, 9, GREATEST);
    }

    private static void ofFold(Tester t) {
        GrindField x = t.field(1, Tester.SAME_PAIR, THREE);
        t.records(x, 7, 8, 7, 9);
        t.runs("three", x, 7, 70809);
        t.load(x, FOLD, 1, 2, 17, 0);
        t.records(x, 8, 1, 8, LEAST, 9, 1, 9, GREATEST);
        t.runs("edges", x, 7, 9, 8, LEAST, 9, GREATEST);
    }

    private static void ofEnd(Tester t) {
        GrindField x = t.field(1, Tester.SAME_PAIR, Tester.SUM);
        t.load(x, END, 1, 0, 0, 100, 9, 0, 1, 1, 7, 0, 17, 0);
        t.records(x, 7, 8);
        t.runs("two", x, 7, 708);
        t.load(x, END, 1, 0, 17, 0);
        t.records(x, LEAST, GREATEST, GREATEST, LEAST);
        t.runs("keys", x, LEAST, LEAST, 7, 7, GREATEST, GREATEST);
    }
}
