import java.util.ArrayList;
import java.util.List;

/** What 'Terms' says of WRONG and GOOD. */
final class WrongBoundaries {
    private static final int MAP = Tester.MAP, JOIN = Tester.JOIN, FOLD = Tester.FOLD, END = Tester.END;
    private static final int GOOD = Tester.GOOD;
    private static final int LEAST = Tester.LEAST, GREATEST = Tester.GREATEST;

    // Texts of the program that are broken.
    private static final String MISFORMED = "if (isMisformed(program, number)) {";
    private static final String NO_WAY_ON = "if (isMisformed(program, number) || lacksNext(program, number)\n"
        + "                    || !fits(program, number, height)) {";
    private static final String MISFITS = "if (isMisformed(program, number) || lacksNext(program, number)";
    private static final String ARGUMENT = "return n < 0 || n >= program.argumentCount();";
    private static final String LOCAL = "return n < 0 || n >= MAX_LOCALS;";
    private static final String JUMP = "return isJump(op) && !program.has(n);";
    private static final String HEIGHTS = "return Integer.bitCount(heights[number]) > 1 || lacksNext(program, number)";
    private static final String NEXT = "return op != OP_GO && op != OP_FINISH && op != OP_LEAVE_OUT;";
    private static final String ROOM = "height + GROWTH[op] <= MAX_STACK";
    private static final String NEEDED = "{0, 0, 0, 1, 1, 2, 1, 2, 2, 2, 2, 2, 2, 2, 0, 1, 2, 1, 0};";
    private static final String GROWTH = "{1, 1, 1, -1, 1, 0, -1, -1, -1, -1, -1, -1, -1, -1, 0, -1, -2, 0, 0};";
    private static final String HEIGHT_BEHIND = "int heightBehind = height + GROWTH[op];";

    private WrongBoundaries() {
    }

    static List<Boundary> all() {
        List<Boundary> all = new ArrayList<>();
        all.addAll(opsAndNs());
        all.addAll(heightsAndNext());
        all.addAll(waysOn());
        return all;
    }

    private static List<Boundary> opsAndNs() {
        return List.of(
            new Boundary("(also one that can not be reached) of another OP", "-1 and 19, reached",
                WrongBoundaries::otherOp)
                .broken("if (op < OP_NUMBER || op > OP_LEAVE_OUT) {", "if (op > OP_LEAVE_OUT) {")
                .broken("if (op < OP_NUMBER || op > OP_LEAVE_OUT) {", "if (op < OP_NUMBER) {"),
            new Boundary("(also one that can not be reached) of another OP", "-1 and 19, not reached",
                WrongBoundaries::otherOpNotReached)
                .broken(MISFORMED, "if (heights[number] != 0 && isMisformed(program, number)) {"),
            new Boundary("or one that is not of its program", "16 in JOIN, FOLD and END",
                WrongBoundaries::emitElsewhere)
                .broken("return program.kind != MAP;", "return program.kind == JOIN || program.kind == FOLD;")
                .broken("return program.kind != MAP;", "return program.kind == JOIN || program.kind == END;")
                .broken("return program.kind != MAP;", "return program.kind == FOLD || program.kind == END;")
                .broken("return program.kind != MAP;", "return true;")
                .broken(MISFORMED, "if (heights[number] != 0 && isMisformed(program, number)) {"),
            new Boundary("or one that is not of its program", "18 in MAP, JOIN and FOLD",
                WrongBoundaries::leaveOutElsewhere)
                .broken("return program.kind != END;", "return program.kind == JOIN || program.kind == FOLD;")
                .broken("return program.kind != END;", "return program.kind == JOIN || program.kind == MAP;")
                .broken("return program.kind != END;", "return program.kind == FOLD || program.kind == MAP;")
                .broken("return program.kind != END;", "return true;")
                .broken(MISFORMED, "if (heights[number] != 0 && isMisformed(program, number)) {"),
            new Boundary("with an N that is no argument (0 and 1;", "-1 and 2 in MAP and END",
                WrongBoundaries::twoArguments)
                .broken(ARGUMENT, "return n >= program.argumentCount();")
                .broken(ARGUMENT, "return n < 0 || n > program.argumentCount();")
                .broken(ARGUMENT, "return n <= 0 || n >= program.argumentCount();")
                .broken("kind == JOIN || kind == FOLD ? 3 : 2", "kind != MAP ? 3 : 2")
                .broken("kind == JOIN || kind == FOLD ? 3 : 2", "kind != END ? 3 : 2")
                .broken(MISFORMED, "if (heights[number] != 0 && isMisformed(program, number)) {"),
            new Boundary("of JOIN and FOLD 2, too)", "-1 and 3 in JOIN and FOLD",
                WrongBoundaries::threeArguments)
                .broken(ARGUMENT, "return n >= program.argumentCount();")
                .broken(ARGUMENT, "return n < 0 || n > program.argumentCount();")
                .broken("kind == JOIN || kind == FOLD ? 3 : 2", "kind == JOIN ? 3 : 2")
                .broken("kind == JOIN || kind == FOLD ? 3 : 2", "kind == FOLD ? 3 : 2"),
            new Boundary("local (0 to 3)", "-1 and 4 with op 2", WrongBoundaries::localRead)
                .broken("op == OP_LOCAL || op == OP_STORE", "op == OP_STORE")
                .broken(LOCAL, "return n >= MAX_LOCALS;")
                .broken(LOCAL, "return n < 0 || n > MAX_LOCALS;")
                .broken(LOCAL, "return n <= 0 || n >= MAX_LOCALS;")
                .broken(MISFORMED, "if (heights[number] != 0 && isMisformed(program, number)) {"),
            new Boundary("local (0 to 3)", "-1 and 4 with op 3", WrongBoundaries::localStored)
                .broken("op == OP_LOCAL || op == OP_STORE", "op == OP_LOCAL")
                .broken(LOCAL, "return n >= MAX_LOCALS;")
                .broken(LOCAL, "return n < 0 || n > MAX_LOCALS;")
                .broken(LOCAL, "return n <= 0 || n >= MAX_LOCALS;")
                .broken(MISFORMED, "if (heights[number] != 0 && isMisformed(program, number)) {"),
            new Boundary("or instruction of the program it goes to", "-1 and one behind the last with op 14",
                WrongBoundaries::goNowhere)
                .broken(JUMP, "return op == OP_GO_IF_ZERO && !program.has(n);")
                .broken(JUMP, "return isJump(op) && !program.has(n) && n != -1;")
                .broken(JUMP, "return isJump(op) && !program.has(n) && n != program.length;")
                .broken(JUMP, "return isJump(op) && !program.has(n + 1);")
                .broken(MISFORMED, "if (heights[number] != 0 && isMisformed(program, number)) {"),
            new Boundary("or instruction of the program it goes to", "-1 and one behind the last with op 15",
                WrongBoundaries::goIfZeroNowhere)
                .broken(JUMP, "return op == OP_GO && !program.has(n);")
                .broken(JUMP, "return isJump(op) && !program.has(n) && n != -1;")
                .broken(JUMP, "return isJump(op) && !program.has(n) && n != program.length;")
                .broken(JUMP, "return isJump(op) && !program.has(n + 1);")
                .broken(MISFORMED, "if (heights[number] != 0 && isMisformed(program, number)) {"),
            new Boundary("N of other OPS may be anything", "the least, -1, 64 and the greatest",
                WrongBoundaries::anyN)
                .broken(JUMP, "return op >= OP_GO && !program.has(n);")
                .broken(JUMP, "return isJump(op) && !program.has(n) || op == OP_DROP && n < 0;")
                .broken(JUMP, "return isJump(op) && !program.has(n) || op == OP_NUMBER && n == " + LEAST + ";"));
    }

    private static List<Boundary> heightsAndNext() {
        List<Boundary> all = new ArrayList<>(List.of(
            new Boundary("from the first on, by both ways of op 15", "each way leads to one that is WRONG",
                WrongBoundaries::bothWays)
                .broken("if (isJump(op)) {\n                reach", "if (op == OP_GO) {\n                reach")
                .broken(NEXT, "return op != OP_GO && op != OP_GO_IF_ZERO && op != OP_FINISH && op != OP_LEAVE_OUT;"),
            new Boundary("from the first on, by both ways of op 15", "2^31 ways to the last instruction",
                WrongBoundaries::manyWays)
                .broken("if (hasHeight(number, height) || reachedCount >= reached.length) {",
                    "if (reachedCount >= reached.length) {"),
            new Boundary("with another height of the stack than before", "one more, one less, by a loop",
                WrongBoundaries::anotherHeight)
                .broken(HEIGHTS, "return lacksNext(program, number)")
                .broken(HEIGHTS, "return Integer.bitCount(heights[number]) > 2 || lacksNext(program, number)")
                .broken(HEIGHTS, "return (heights[number] & 1) == 0 && Integer.bitCount(heights[number]) > 1"
                    + " || lacksNext(program, number)"),
            new Boundary("with another height of the stack than before", "the same by several ways is GOOD",
                WrongBoundaries::sameHeight)
                .broken("if (hasHeight(number, height) || reached",
                    "if (hasHeight(number, height)) { heights[number] |= 256; }\n"
                    + "            if (hasHeight(number, height) || reached")));
        int[] growths = {1, 1, 1, -1, 1, 0, -1, -1, -1, -1, -1, -1, -1, -1, 0, -1, -2};
        for (int op = 0; op < growths.length; op++) {
            all.add(leaving(op, growths[op]));
        }
        int[] twos = {7, 8, 9, 10, 11, 12, 13};
        for (int op : twos) {
            all.add(needing("12 and 13 need 2 like 7 to 11", op, 2));
        }
        all.add(needing("16 2, 5 2", 16, 2));
        all.add(needing("16 2, 5 2", 5, 2));
        int[] ones = {4, 6, 3, 15};
        for (int op : ones) {
            all.add(needing("4, 6, 3, 15 1", op, 1));
        }
        all.add(needing("17 of JOIN, FOLD, END 1", 17, 1)
            .broken("program.kind == MAP ? 0 : NEEDED[op]", "program.kind != JOIN ? 0 : NEEDED[op]")
            .broken("program.kind == MAP ? 0 : NEEDED[op]", "program.kind != FOLD ? 0 : NEEDED[op]")
            .broken("program.kind == MAP ? 0 : NEEDED[op]", "program.kind != END ? 0 : NEEDED[op]"));
        int[] growing = {0, 1, 2, 4};
        for (int op : growing) {
            all.add(tooMany(op));
        }
        all.add(new Boundary("so that it would have more than 8", "no other OP would",
            WrongBoundaries::notTooMany)
            .broken(ROOM, "height < MAX_STACK")
            .broken(ROOM, "height + Math.max(0, GROWTH[op]) < MAX_STACK"));
        all.add(new Boundary("after which an instruction would come that is not there",
            "each OP that goes on, as the last", WrongBoundaries::missingNext)
            .broken(HEIGHTS, "return Integer.bitCount(heights[number]) > 1")
            .broken(NEXT, "return op != OP_GO && op != OP_GO_IF_ZERO && op != OP_FINISH && op != OP_LEAVE_OUT;")
            .broken(NEXT, "return op < OP_GO || op == OP_GO_IF_ZERO;")
            .broken(NEXT, "return op > OP_NUMBER && op != OP_GO && op != OP_FINISH && op != OP_LEAVE_OUT;"));
        all.add(new Boundary("after which an instruction would come that is not there",
            "14, 17 and 18 may be the last", WrongBoundaries::noNextNeeded)
            .broken(NEXT, "return op != OP_FINISH && op != OP_LEAVE_OUT;")
            .broken(NEXT, "return op != OP_GO && op != OP_LEAVE_OUT;")
            .broken(NEXT, "return op != OP_GO && op != OP_FINISH;"));
        all.add(new Boundary("or one that can be reached", "one that can not may have any height and no next",
            WrongBoundaries::notReached)
            .broken("if (heights[number] == 0) {\n                return false;",
                "if (heights[number] == 0) {\n                return lacksNext(program, number);")
            .broken("if (heights[number] == 0) {\n                return false;",
                "if (heights[number] == 0) {\n                return NEEDED[program.ops[number]] == 2;"));
        return all;
    }

    private static List<Boundary> waysOn() {
        return List.of(
            new Boundary("Ways go on behind an instruction by each height with which it is reached",
                "by two, both", WrongBoundaries::eachHeight)
                .broken("if (hasHeight(number, height) || reached", "if (heights[number] != 0 || reached"),
            new Boundary("Ways go on behind an instruction by each height with which it is reached",
                "by all nine, many instructions", WrongBoundaries::allHeights)
                .broken("reached = new int[MAX_CODE * HEIGHTS];", "reached = new int[MAX_CODE * 4];")
                .broken("reached = new int[MAX_CODE * HEIGHTS];", "reached = new int[MAX_CODE];"),
            new Boundary("but not behind one that is WRONG by its OP", "another OP, and one of another program",
                WrongBoundaries::notBehindOp)
                .broken(NO_WAY_ON, "if (program.ops[number] < 0 || program.ops[number] > OP_LEAVE_OUT) {\n"
                    + "reach(number + 1, height);\nreturn;\n}\n" + NO_WAY_ON)
                .broken(NO_WAY_ON, "if (program.ops[number] < 0 || program.ops[number] > OP_LEAVE_OUT"
                    + " || lacksNext(program, number) || !fits(program, number, height)) {"),
            new Boundary("but not behind one that is WRONG by its OP, N,", "an argument, a local, a way of 15",
                WrongBoundaries::notBehindN)
                .broken(NO_WAY_ON, "if (program.ops[number] < 0 || program.ops[number] > OP_LEAVE_OUT"
                    + " || lacksNext(program, number) || !fits(program, number, height)) {"),
            new Boundary("too few or too many", "not behind too few", WrongBoundaries::notBehindTooFew)
                .broken(NO_WAY_ON, "if (isMisformed(program, number) || lacksNext(program, number)"
                    + " || height + GROWTH[program.ops[number]] > MAX_STACK) {",
                    HEIGHT_BEHIND, "int heightBehind = Math.max(0, height + GROWTH[op]);"),
            new Boundary("too few or too many", "not behind too many", WrongBoundaries::notBehindTooMany)
                .broken(NO_WAY_ON, "if (isMisformed(program, number) || lacksNext(program, number)"
                    + " || height < NEEDED[program.ops[number]]) {",
                    HEIGHT_BEHIND, "int heightBehind = Math.min(MAX_STACK, height + GROWTH[op]);"),
            new Boundary("or the missing next one", "also not to the N of a 15", WrongBoundaries::notBehindMissing)
                .broken(NO_WAY_ON, "if (isMisformed(program, number) || !fits(program, number, height)) {"),
            new Boundary("only with those for which it is not", "of two heights the greater one goes on",
                WrongBoundaries::greaterGoesOn)
                .broken(NO_WAY_ON, MISFITS + "|| !fitsEveryHeight(program, number)) {")
                .broken(NO_WAY_ON, MISFITS
                    + "|| heights[number] == 1 << height && !fits(program, number, height)) {"),
            new Boundary("only with those for which it is not", "of two heights the smaller one goes on",
                WrongBoundaries::smallerGoesOn)
                .broken(NO_WAY_ON, MISFITS + "|| !fitsEveryHeight(program, number)) {"),
            new Boundary("A program is GOOD if it has no WRONG one", "the first, the last, one alone is WRONG",
                WrongBoundaries::noWrongOne)
                .broken("for (int number = 0; number < program.length; number++) {",
                    "for (int number = 1; number < program.length; number++) {")
                .broken("for (int number = 0; number < program.length; number++) {",
                    "for (int number = 0; number < program.length - 1; number++) {"),
            new Boundary("and at least one instruction", "none is not GOOD, one may be",
                WrongBoundaries::atLeastOne)
                .broken("return ANSWER_NO_CODE;", "return NONE;")
                .broken("if (program.length == 0) {", "if (program.length <= 1) {"));
    }

    /** Where too few of an op that needs so many are WRONG, and just as many are not. */
    private static Boundary needing(String words, int op, int need) {
        return new Boundary(words, "op " + op + " with " + (need - 1) + " and with " + need,
            t -> needs(t, op, need))
            .broken(NEEDED, withNumber(NEEDED, op, need - 1))
            .broken(NEEDED, withNumber(NEEDED, op, need + 1));
    }

    /** A row of the program with another number at a place. */
    private static String withNumber(String row, int place, int number) {
        String[] numbers = row.replaceAll("[{};]", "").split(", ");
        numbers[place] = Integer.toString(number);
        return "{" + String.join(", ", numbers) + "};";
    }

    /** What is on the stack behind an op: so many can go and no more. */
    private static Boundary leaving(int op, int growth) {
        return new Boundary("with another height of the stack than before", "of 3, op " + op + " leaves " + (3 + growth),
            t -> leaves(t, op, 3 + growth))
            .broken(GROWTH, withNumber(GROWTH, op, growth - 1))
            .broken(GROWTH, withNumber(GROWTH, op, growth + 1));
    }

    private static void leaves(Tester t, int op, int left) {
        for (int program : Tester.ALL) {
            if (op == 16 && program != MAP) {
                continue;
            }
            int n = op == 14 || op == 15 ? 4 : 0;
            t.checked("op " + op + " and " + left + " go", GOOD, program, dropping(op, n, left));
            t.checked("op " + op + " and one more goes", 4 + left, program, dropping(op, n, left + 1));
        }
    }

    /** 3 numbers, an op, then so many go, and no end. */
    private static int[] dropping(int op, int n, int drops) {
        int[] rest = new int[2 * drops + 4];
        rest[0] = op;
        rest[1] = n;
        for (int i = 1; i <= drops; i++) {
            rest[2 * i] = 6;
        }
        rest[2 * drops + 2] = 14;
        rest[2 * drops + 3] = drops + 4;
        return Tester.behind(3, rest);
    }

    private static void needs(Tester t, int op, int need) {
        for (int program : Tester.ALL) {
            if (op == 16 && program != MAP || op == 17 && program == MAP) {
                continue;
            }
            // An endless loop behind it, since an end needs one, too.
            t.checked("op " + op + " with " + need, GOOD, program,
                Tester.behind(need, op, op == 15 ? need + 1 : 0, 14, need + 1));
            t.checked("op " + op + " with " + (need - 1), need - 1, program,
                Tester.behind(need - 1, op, op == 15 ? need : 0, 14, need));
        }
    }

    private static Boundary tooMany(int op) {
        return new Boundary("so that it would have more than 8", "op " + op + " behind 7 and behind 8",
            t -> tooMany(t, op))
            .broken(ROOM, "height + GROWTH[op] <= MAX_STACK + 1")
            .broken(ROOM, "height + GROWTH[op] < MAX_STACK")
            .broken(ROOM, "(op == " + op + " || height + GROWTH[op] <= MAX_STACK)");
    }

    private static void tooMany(Tester t, int op) {
        for (int program : Tester.ALL) {
            t.checked("op " + op + " behind 7", GOOD, program, Tester.behind(7, op, 0, 17, 0));
            t.checked("op " + op + " behind 8", 8, program, Tester.behind(8, op, 0, 17, 0));
        }
    }

    private static void notTooMany(Tester t) {
        int[] others = {3, 5, 6, 7, 8, 9, 10, 11, 12, 13};
        for (int program : Tester.ALL) {
            for (int op : others) {
                t.checked("op " + op + " behind 8", GOOD, program, Tester.behind(8, op, 0, 17, 0));
            }
            t.checked("14 behind 8", GOOD, program, Tester.behind(8, 14, 9, 17, 0));
            t.checked("15 behind 8", GOOD, program, Tester.behind(8, 15, 9, 17, 0));
            t.checked("17 behind 8", GOOD, program, Tester.behind(8, 17, 0));
        }
        t.checked("16 behind 8", GOOD, MAP, Tester.behind(8, 16, 0, 17, 0));
        t.checked("18 behind 8", GOOD, END, Tester.behind(8, 18, 0));
    }

    private static void otherOp(Tester t) {
        int[] ops = {LEAST, -1, 19, GREATEST};
        for (int program : Tester.ALL) {
            for (int op : ops) {
                t.checked("op " + op, 1, program, 0, 1, op, 0, 17, 0);
            }
            t.checked("op 0 and 17", GOOD, program, 0, 1, 17, 0);
        }
    }

    private static void otherOpNotReached(Tester t) {
        int[] ops = {LEAST, -1, 19, GREATEST};
        for (int program : Tester.ALL) {
            for (int op : ops) {
                t.checked("op " + op, 2, program, 0, 1, 17, 0, op, 0);
            }
        }
    }

    private static void emitElsewhere(Tester t) {
        int[] others = {JOIN, FOLD, END};
        for (int program : others) {
            t.checked("16", 3, program, Tester.behind(3, 16, 0, 17, 0));
            t.checked("16 not reached", 2, program, 0, 1, 17, 0, 16, 0);
        }
        t.checked("16", GOOD, MAP, Tester.behind(3, 16, 0, 17, 0));
        t.checked("16 not reached", GOOD, MAP, 0, 1, 17, 0, 16, 0);
    }

    private static void leaveOutElsewhere(Tester t) {
        int[] others = {MAP, JOIN, FOLD};
        for (int program : others) {
            t.checked("18", 1, program, 0, 1, 18, 0, 17, 0);
            t.checked("18 not reached", 2, program, 0, 1, 17, 0, 18, 0);
        }
        t.checked("18", GOOD, END, 0, 1, 18, 0, 17, 0);
        t.checked("18 not reached", GOOD, END, 0, 1, 17, 0, 18, 0);
    }

    /** An op whose N may be from 0 to some last one, reached and not. */
    private static void withN(Tester t, int program, int op, int last) {
        int[] others = {LEAST, -1, last + 1, GREATEST};
        for (int other : others) {
            t.checked("op " + op + " of " + other, 1, program, 0, 1, op, other, 0, 1, 17, 0);
            t.checked("op " + op + " of " + other + " not reached", 2, program, 0, 1, 17, 0, op, other);
        }
        for (int n = 0; n <= last; n++) {
            t.checked("op " + op + " of " + n, GOOD, program, 0, 1, op, n, 0, 1, 17, 0);
            t.checked("op " + op + " of " + n + " not reached", GOOD, program, 0, 1, 17, 0, op, n);
        }
    }

    private static void twoArguments(Tester t) {
        withN(t, MAP, 1, 1);
        withN(t, END, 1, 1);
    }

    private static void threeArguments(Tester t) {
        withN(t, JOIN, 1, 2);
        withN(t, FOLD, 1, 2);
    }

    private static void localRead(Tester t) {
        for (int program : Tester.ALL) {
            withN(t, program, 2, 3);
        }
    }

    private static void localStored(Tester t) {
        for (int program : Tester.ALL) {
            withN(t, program, 3, 3);
        }
    }

    private static void goNowhere(Tester t) {
        int[] others = {LEAST, -1, 3, 4, 63, 64, GREATEST};
        for (int program : Tester.ALL) {
            for (int other : others) {
                t.checked("14 to " + other, 1, program, 0, 1, 14, other, 17, 0);
                t.checked("14 to " + other + " not reached", 2, program, 0, 1, 17, 0, 14, other);
            }
            t.checked("14 to the last", GOOD, program, 0, 1, 14, 2, 17, 0);
            t.checked("14 to the first", GOOD, program, 14, 0);
        }
    }

    private static void goIfZeroNowhere(Tester t) {
        int[] others = {LEAST, -1, 4, 5, 63, 64, GREATEST};
        for (int program : Tester.ALL) {
            for (int other : others) {
                t.checked("15 to " + other, 1, program, 0, 1, 15, other, 0, 1, 17, 0);
                t.checked("15 to " + other + " not reached", 2, program, 0, 1, 17, 0, 15, other, 17, 0);
            }
            t.checked("15 to the last", GOOD, program, 0, 1, 0, 1, 15, 3, 17, 0);
            t.checked("15 to the first", GOOD, program, 0, 1, 15, 0, 14, 2);
        }
    }

    private static void anyN(Tester t) {
        int[] ns = {LEAST, -1, 64, GREATEST};
        int[] others = {5, 6, 7, 8, 9, 10, 11, 12, 13};
        for (int program : Tester.ALL) {
            for (int n : ns) {
                t.checked("0 of " + n, GOOD, program, 0, n, 17, 0);
                t.checked("4 of " + n, GOOD, program, 0, 1, 4, n, 17, 0);
                t.checked("17 of " + n, GOOD, program, 0, 1, 17, n);
                for (int op : others) {
                    t.checked(op + " of " + n, GOOD, program, Tester.behind(3, op, n, 17, 0));
                }
            }
        }
        for (int n : ns) {
            t.checked("16 of " + n, GOOD, MAP, Tester.behind(2, 16, n, 17, 0));
            t.checked("18 of " + n, GOOD, END, 18, n);
        }
    }

    private static void bothWays(Tester t) {
        for (int program : Tester.ALL) {
            t.checked("by 0", 4, program, 0, 1, 15, 4, 0, 1, 17, 0, 6, 0, 14, 5);
            t.checked("by others", 2, program, 0, 1, 15, 3, 6, 0, 14, 3);
        }
    }

    private static void manyWays(Tester t) {
        int[] code = new int[126];
        for (int i = 0; i < 62; i += 2) {
            code[2 * i] = 0;
            code[2 * i + 2] = 15;
            code[2 * i + 3] = i + 2;
        }
        code[124] = 14;
        for (int program : Tester.ALL) {
            t.checked("the last is GOOD", GOOD, program, code);
            code[124] = 6;
            t.checked("the last has too few", 62, program, code);
            code[124] = 14;
        }
    }

    private static void anotherHeight(Tester t) {
        for (int program : Tester.ALL) {
            t.checked("0 and 1", 3, program, 0, 1, 15, 3, 0, 5, 14, 3);
            t.checked("1 and 2", 4, program, 0, 1, 0, 1, 15, 4, 0, 5, 14, 4);
            t.checked("8 and 7", 10, program,
                Tester.behind(8, 15, 10, 0, 1, 14, 10));
            t.checked("2 and 1", 5, program, Tester.behind(3, 15, 5, 6, 0, 14, 5));
            t.checked("a loop that grows", 0, program, 0, 1, 14, 0);
            t.checked("the first again", 0, program, 0, 1, 0, 1, 15, 0, 14, 3);
        }
        // Also where the height makes no difference to what is done.
        t.checked("a 17 with 0 and 1", 3, MAP, 0, 1, 15, 3, 0, 5, 17, 0);
        t.checked("a 18 with 0 and 1", 3, END, 0, 1, 15, 3, 0, 5, 18, 0);
    }

    private static void sameHeight(Tester t) {
        for (int program : Tester.ALL) {
            t.checked("by 14 and 15", GOOD, program, 0, 1, 15, 4, 0, 5, 14, 5, 0, 6, 17, 0);
            t.checked("a loop that keeps", GOOD, program, 0, 1, 6, 0, 14, 0);
            t.checked("both ways to the next", GOOD, program, 0, 1, 15, 2, 14, 2);
        }
    }

    private static void missingNext(Tester t) {
        int[] ops = {0, 1, 2, 3, 4, 5, 6, 7, 8, 9, 10, 11, 12, 13, 15};
        for (int program : Tester.ALL) {
            for (int op : ops) {
                t.checked("op " + op + " as the last", 3, program, Tester.behind(3, op, 0));
                // WRONG at one height that is right for it is enough.
                t.checked("op " + op + " behind another", 4, program, Tester.behind(3, 14, 4, op, 0));
            }
        }
        t.checked("op 16 as the last", 3, MAP, Tester.behind(3, 16, 0));
    }

    private static void noNextNeeded(Tester t) {
        for (int program : Tester.ALL) {
            t.checked("14 as the last", GOOD, program, 14, 0);
            t.checked("17 as the last", GOOD, program, 0, 1, 17, 0);
        }
        t.checked("18 as the last", GOOD, END, 18, 0);
    }

    private static void notReached(Tester t) {
        for (int program : Tester.ALL) {
            t.checked("too few", GOOD, program, 0, 1, 17, 0, 7, 0, 17, 0);
            t.checked("two heights", GOOD, program, 0, 1, 17, 0, 0, 1, 0, 1, 15, 6, 0, 1, 17, 0);
            t.checked("no next one", GOOD, program, 0, 1, 17, 0, 0, 1);
        }
    }

    private static void eachHeight(Tester t) {
        // 6 is reached with 1 and 0, and goes on to 1 with both.
        t.checked("both go on", 1, JOIN, 14, 2, 17, 0, 0, 1, 0, 0, 15, 6, 6, 0, 14, 1);
        // 5 is reached with 1 and 2, and the one that it goes on to with 0 and 1.
        t.checked("both go on", 1, MAP, 14, 2, 17, 0, 0, 1, 0, 1, 15, 6, 0, 1, 6, 0, 14, 1);
    }

    /**
     * A long loop from 11 on goes down from 8 to 0, and each time a way leads to 46, where 8 numbers
     * come: only from 0 is there room for all, and then a way to 1, which has too many.
     */
    private static void allHeights(Tester t) {
        int[] code = new int[128];
        for (int i = 0; i < 64; i++) {
            code[2 * i] = i >= 3 && i <= 10 || i >= 46 && i <= 53 || i == 1 ? 0 : 14;
            code[2 * i + 1] = i + 1;
        }
        code[1] = 3;
        code[2 * 2 + 1] = 2;
        code[2 * 11] = 15;
        code[2 * 11 + 1] = 46;
        code[2 * 45 + 1] = 11;
        code[2 * 54 + 1] = 1;
        code[2 * 63 + 1] = 63;
        t.checked("from 0 alone", 1, JOIN, code);
        // With one round alone the way to 46 has no room but for the first number.
        code[2 * 45 + 1] = 45;
        t.checked("not from 7", 47, JOIN, code);
    }

    private static void notBehindOp(Tester t) {
        int[] ops = {LEAST, -1, 19, GREATEST};
        for (int op : ops) {
            t.checked("behind op " + op, 2, JOIN, 14, 2, 17, 0, op, 0, 14, 1);
        }
        t.checked("behind 16", 4, JOIN, 14, 2, 17, 0, 0, 0, 0, 0, 16, 0, 14, 1);
    }

    private static void notBehindN(Tester t) {
        t.checked("behind an argument", 2, JOIN, 14, 2, 17, 0, 1, 3, 6, 0, 14, 1);
        t.checked("behind a local", 2, JOIN, 14, 2, 17, 0, 2, 4, 6, 0, 14, 1);
        t.checked("behind one to a local", 3, JOIN, 14, 2, 17, 0, 0, 1, 3, 4, 14, 1);
        t.checked("behind a 15", 3, JOIN, 14, 2, 17, 0, 0, 1, 15, 9, 14, 1);
    }

    private static void notBehindTooFew(Tester t) {
        int[] ops = {3, 4, 5, 6, 7, 8, 9, 10, 11, 12, 13, 15};
        for (int op : ops) {
            // With none or one, 1 would have too few.
            t.checked("behind op " + op, 2, JOIN, 14, 2, 7, 0, op, 1, 14, 1);
        }
    }

    private static void notBehindTooMany(Tester t) {
        int[] ops = {0, 1, 2, 4};
        for (int op : ops) {
            // With 8, 1 would have too many.
            int[] code = Tester.behind(10, op, 0, 14, 1);
            code[0] = 14;
            code[1] = 2;
            t.checked("behind op " + op, 10, JOIN, code);
        }
    }

    private static void notBehindMissing(Tester t) {
        t.checked("a 15 as the last", 3, JOIN, 14, 2, 17, 0, 0, 1, 15, 1);
        t.checked("a 15 that is not the last", 1, JOIN, 14, 2, 17, 0, 0, 1, 15, 1, 14, 1);
    }

    private static void greaterGoesOn(Tester t) {
        // 8 is reached with 2 and then with 1, and goes on to 1 with 2 alone, enough there.
        t.checked("2 of 2 and 1", 8, MAP, 14, 3, 8, 0, 17, 0, 0, 1, 0, 1, 0, 0, 15, 8, 6, 0, 5, 0, 14, 1);
        // 6 is reached with 1 and then with 2, and goes on to 1 with 2, one less there: too few.
        t.checked("2 of 1 and 2", 1, JOIN, 14, 2, 7, 0, 0, 1, 0, 1, 15, 6, 0, 1, 12, 0, 14, 1);
    }

    private static void smallerGoesOn(Tester t) {
        // 12 is reached with 8 and then with 7, and goes on to 1 with 7, one more there: too many.
        int[] code = Tester.behind(10, 15, 14, 0, 0, 0, 0, 14, 1, 14, 15, 14, 16, 14, 12);
        code[0] = 14;
        code[1] = 2;
        t.checked("7 of 8 and 7", 1, MAP, code);
        // With room for one more in 1, 12 is the first.
        code[2] = 6;
        t.checked("7 of 8 and 7", 2, MAP, code);
    }

    private static void noWrongOne(Tester t) {
        for (int program : Tester.ALL) {
            t.checked("none WRONG", GOOD, program, 0, 1, 17, 0);
            t.checked("the first WRONG", 0, program, 99, 0, 17, 0);
            t.checked("the last WRONG", 1, program, 0, 1, 99, 0);
            t.checked("one alone", 0, program, 99, 0);
        }
    }

    private static void atLeastOne(Tester t) {
        for (int program : Tester.ALL) {
            t.checked("none", 64, program);
            t.checked("one", GOOD, program, 14, 0);
        }
        GrindField x = new GrindField(1, 1, 1);
        t.due("run without instructions", x.run(0), GrindField.NONE);
    }
}
