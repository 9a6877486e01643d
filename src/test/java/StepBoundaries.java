import java.util.List;

/** What 'Terms' says of STEPS. */
final class StepBoundaries {
    private static final int MAP = Tester.MAP, JOIN = Tester.JOIN, FOLD = Tester.FOLD, END = Tester.END;
    private static final String[] NAMES = {"MAP", "JOIN", "FOLD", "END"};
    // 8 numbers are added: 36 with local 0, which becomes that. 4 are left on the stack.
    private static final int[] FILLING = Tester.behind(8, 7, 0, 7, 0, 7, 0, 7, 0, 7, 0, 7, 0, 7, 0,
        2, 0, 7, 0, 3, 0, 0, 9, 0, 9, 0, 9, 0, 9, 2, 0, 17, 0);
    // The same for MAP, which sends it as the value of key 1.
    private static final int[] FILLING_MAP = Tester.behind(8, 7, 0, 7, 0, 7, 0, 7, 0, 7, 0, 7, 0, 7, 0,
        2, 0, 7, 0, 3, 0, 0, 9, 0, 9, 0, 9, 0, 9, 0, 1, 2, 0, 16, 0, 17, 0);

    private StepBoundaries() {
    }

    static List<Boundary> all() {
        return List.of(
            new Boundary("each instruction done is one", "of each OP", StepBoundaries::eachIsOne)
                .broken("step <= MAX_STEPS && program.has(at); step++) {",
                    "step <= MAX_STEPS && program.has(at); step++) { step -= program.ops[at] == OP_GO ? 1 : 0;")
                .broken("step <= MAX_STEPS && program.has(at); step++) {",
                    "step <= MAX_STEPS && program.has(at); step++) { step += program.ops[at] == OP_EMIT ? 1 : 0;"),
            new Boundary("(17 and 18, too)", "the end is a step, too", StepBoundaries::endIsOne)
                .broken("steps[program.kind] += step;", "steps[program.kind] += step - 1;")
                .broken("steps[program.kind] += step;", "steps[program.kind] += op == OP_LEAVE_OUT ? step - 1 : step;"),
            new Boundary("STACK and LOCALS are new for each call", "of MAP", t -> newForEach(t, MAP))
                .broken("height = 0;\n            emitted = 0;", "emitted = 0;")
                .broken("Arrays.fill(locals, 0);", "locals[1] = 0;"),
            new Boundary("STACK and LOCALS are new for each call", "of JOIN", t -> newForEach(t, JOIN))
                .broken("height = 0;\n            emitted = 0;", "emitted = 0;")
                .broken("Arrays.fill(locals, 0);", "locals[1] = 0;"),
            new Boundary("STACK and LOCALS are new for each call", "of FOLD", t -> newForEach(t, FOLD))
                .broken("height = 0;\n            emitted = 0;", "emitted = 0;")
                .broken("Arrays.fill(locals, 0);", "locals[1] = 0;"),
            new Boundary("STACK and LOCALS are new for each call", "of END", t -> newForEach(t, END))
                .broken("height = 0;\n            emitted = 0;", "emitted = 0;")
                .broken("Arrays.fill(locals, 0);", "locals[1] = 0;"),
            new Boundary("STACK and LOCALS are new for each call", "behind a call that has failed",
                StepBoundaries::newBehindFailed)
                .broken("Arrays.fill(locals, 0);", "")
                .broken("height = 0;\n            emitted = 0;", "emitted = 0;")
                .broken("height = 0;\n            emitted = 0;", "height = 0;"),
            moreThan300(MAP),
            moreThan300(JOIN),
            moreThan300(FOLD),
            moreThan300(END),
            new Boundary("with more than 300 STEPS", "300 of one call, not of all", StepBoundaries::ofOneCall)
                .broken("for (int step = 1; step <= MAX_STEPS", "for (int step = 1; step + steps[program.kind] <= MAX_STEPS"),
            new Boundary("or MAP with more than 20 PAIRS, FAILS", "20 do not fail, 21 do",
                StepBoundaries::moreThan20)
                .broken("MAX_CALL_PAIRS = 20", "MAX_CALL_PAIRS = 19")
                .broken("MAX_CALL_PAIRS = 20", "MAX_CALL_PAIRS = 21"),
            new Boundary("or MAP with more than 20 PAIRS, FAILS", "20 of one call, not of all",
                StepBoundaries::pairsOfOneCall)
                .broken("height = 0;\n            emitted = 0;", "height = 0;"));
    }

    private static Boundary moreThan300(int program) {
        return new Boundary("with more than 300 STEPS", "300 of " + NAMES[program] + " do not fail, 301 do",
            t -> moreThan300(t, program))
            .broken("MAX_STEPS = 300", "MAX_STEPS = 299")
            .broken("MAX_STEPS = 300", "MAX_STEPS = 301")
            .broken("step <= MAX_STEPS &&", "(step <= MAX_STEPS || program.kind == " + NAMES[program]
                + " && step == MAX_STEPS + 1) &&");
    }

    /** A job that calls each program that it has once or more: MAP twice. */
    private static GrindField calling(Tester t, int program, int... code) {
        GrindField x = t.field(program == JOIN ? 2 : 1, Tester.SAME_PAIR, Tester.SUM);
        t.load(x, program, code);
        t.records(x, 1, 10, 1, 20);
        return x;
    }

    private static void eachIsOne(Tester t) {
        int[][] ones = {{0, 5}, {1, 0}, {2, 0}, {4, 0}, {3, 0}, {6, 0}, {5, 0}, {7, 0}, {8, 0}, {9, 0},
            {10, 0}, {11, 0}, {12, 0}, {13, 0}, {14, 4}, {15, 4}, {16, 0}};
        for (int[] one : ones) {
            GrindField x = calling(t, MAP, Tester.behind(3, one[0], one[1], 17, 0));
            x.run(0);
            t.due("steps with op " + one[0], x.count(4), 2 * 5);
        }
        // A loop: each round counts.
        GrindField x = calling(t, MAP, 0, 3, 4, 0, 15, 6, 0, 1, 8, 0, 14, 1, 17, 0);
        x.run(0);
        t.due("steps of a loop", x.count(4), 2 * (1 + 3 * 5 + 2 + 1));
    }

    private static void endIsOne(Tester t) {
        GrindField x = calling(t, MAP, 17, 0);
        t.due("run", x.run(0), 0);
        t.due("17 of MAP", x.count(4), 2);
        x = calling(t, JOIN, 0, 1, 17, 0);
        t.due("run", x.run(0), 1);
        t.due("17 of JOIN", x.count(5), 2);
        x = calling(t, FOLD, 0, 1, 17, 0);
        t.due("run", x.run(0), 1);
        t.due("17 of FOLD", x.count(6), 2);
        x = calling(t, END, 0, 1, 17, 0);
        t.due("run", x.run(0), 1);
        t.due("17 of END", x.count(7), 2);
        t.load(x, END, 18, 0);
        t.due("run", x.run(0), 0);
        t.due("18 of END", x.count(7), 1);
    }

    private static void newForEach(Tester t, int program) {
        GrindField x = t.field(program == JOIN ? 3 : 1, Tester.SAME_PAIR, Tester.SUM);
        t.load(x, program, program == MAP ? FILLING_MAP : FILLING);
        t.due("check", x.check(program), Tester.GOOD);
        t.records(x, 1, 5, 1, 6, 1, 7);
        t.runs("one key", x, 1, program == MAP ? 3 * 36 : 36);
        t.records(x, 1, 5, 1, 6, 1, 7);
        // Of two splits two values of JOIN are added by FOLD.
        t.runs("more of it", x, 1, program == MAP ? 6 * 36 : program == JOIN ? 2 * 36 : 36);
        if (program == END) {
            t.records(x, 2, 5, 3, 6);
            t.runs("three keys", x, 1, 36, 2, 36, 3, 36);
        }
    }

    private static void newBehindFailed(Tester t) {
        GrindField x = t.field(1, Tester.MANY, Tester.SUM);
        t.records(x, 1, 21);
        t.failed("21 pairs", x, 0);
        x.wipe();
        t.records(x, 1, 20);
        t.runs("20 pairs behind it", x, 1, 210);
        t.load(x, MAP, Tester.behind(8, 3, 0, 4, 0, 14, 10));
        t.failed("a full stack and a local", x, 0);
        t.load(x, MAP, Tester.behind(6, 1, 0, 2, 0, 16, 0, 17, 0));
        t.runs("none is left", x, 1, 0);
    }

    private static void moreThan300(Tester t, int program) {
        GrindField x = calling(t, program, Tester.stepping(300));
        t.due("300 steps", x.run(0), program == MAP ? 0 : 1);
        t.due("error", x.count(0), -1);
        t.due("steps", x.count(4 + program), program == MAP ? 600 : 300);
        t.load(x, program, Tester.stepping(301));
        t.failed("301 steps", x, program * 1000);
        t.load(x, program, Tester.ENDLESS);
        t.failed("no end", x, program * 1000);
    }

    private static void ofOneCall(Tester t) {
        GrindField x = t.field(2, Tester.stepping(300), Tester.SUM);
        for (int i = 0; i < 120; i++) {
            x.record(i, i);
        }
        t.runs("300 steps of each", x);
        t.due("steps of MAP", x.count(4), 36000);
        t.load(x, MAP, Tester.SAME_PAIR);
        t.load(x, END, Tester.stepping(300));
        t.due("300 steps of each", x.run(0), 120);
        t.due("steps of END", x.count(7), 36000);
    }

    private static void moreThan20(Tester t) {
        GrindField x = t.field(1, Tester.MANY, Tester.SUM);
        t.records(x, 1, 20);
        t.runs("20 pairs", x, 1, 210);
        t.due("pairs", x.count(1), 20);
        x.wipe();
        t.records(x, 1, 21);
        t.failed("21 pairs", x, 0);
        x.wipe();
        x.record(1, 1);
        t.load(x, MAP, onePairEach(20));
        t.runs("20 pairs without a loop", x, 1, 20);
        t.load(x, MAP, onePairEach(21));
        t.failed("21 pairs without a loop", x, 0);
    }

    /** So many pairs of 1 and 1, without a loop. */
    private static int[] onePairEach(int pairs) {
        int[] code = new int[2 * (3 * pairs + 1)];
        for (int i = 0; i < pairs; i++) {
            code[6 * i + 1] = 1;
            code[6 * i + 2] = 4;
            code[6 * i + 4] = 16;
        }
        code[6 * pairs] = 17;
        return code;
    }

    private static void pairsOfOneCall(Tester t) {
        GrindField x = t.field(1, Tester.MANY, Tester.SUM);
        t.records(x, 1, 20, 2, 20, 3, 1);
        t.runs("20, 20 and 1", x, 1, 210, 2, 210, 3, 1);
        t.due("pairs", x.count(1), 41);
    }
}
