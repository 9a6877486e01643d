import java.util.List;

/** What 'Terms' says of OPS: wrap-around, by 0, and what is there before and behind each. */
final class OpBoundaries {
    private static final int JOIN = Tester.JOIN, FOLD = Tester.FOLD, END = Tester.END;
    private static final int LEAST = Tester.LEAST, GREATEST = Tester.GREATEST;

    private static final String DIVIDED = "return upper == 0 ? 0 : lower / upper;";
    private static final String REMAINING = "return upper == 0 ? 0 : lower % upper;";

    private OpBoundaries() {
    }

    static List<Boundary> all() {
        return List.of(
            new Boundary("0 N on the stack", "N is any int", OpBoundaries::number)
                .broken("push(n);", "push((short) n);"),
            new Boundary("1 argument N", "the first and the last", OpBoundaries::argument)
                .broken("arguments[n] : 0", "arguments[Math.min(1, n)] : 0"),
            new Boundary("2 local N", "the first and the last", OpBoundaries::local)
                .broken("locals[n] : 0", "locals[Math.min(2, n)] : 0"),
            new Boundary("3 the top goes to local N", "it is on the stack no more", OpBoundaries::store)
                .broken("store(n, pop());", "store(n, stack[height - 1]);"),
            new Boundary("4 the top once more", "both are the top", OpBoundaries::again)
                .broken("push(top);\n                    push(top);", "push(top); push(0);")
                .broken("push(top);\n                    push(top);", "push(0); push(top);"),
            new Boundary("5 the two on top change places", "what is below stays", OpBoundaries::swap)
                .broken("push(upper);\n                    push(lower);", "push(lower); push(upper);")
                .broken("case OP_SWAP:\n                    int upper = pop();",
                    "case OP_SWAP: int upper = stack[0]; pop();"),
            new Boundary("6 the top goes", "what is below stays", OpBoundaries::drop)
                .broken("case OP_DROP:\n                    pop();", "case OP_DROP:")
                .broken("case OP_DROP:\n                    pop();", "case OP_DROP: pop(); pop();"),
            new Boundary("they wrap", "+ at both ends", OpBoundaries::sumWraps)
                .broken("return lower + upper;", saturated("lower", "+")),
            new Boundary("they wrap", "- at both ends", OpBoundaries::differenceWraps)
                .broken("return lower - upper;", saturated("lower", "-")),
            new Boundary("they wrap", "* at both ends", OpBoundaries::productWraps)
                .broken("return lower * upper;", saturated("lower", "*")),
            new Boundary("also -2^31 / -1", "the quotient is -2^31, what remains is 0",
                OpBoundaries::leastByMinusOne)
                .broken(DIVIDED, "return upper == 0 ? 0 : upper == -1 ? Math.max(-lower, ~lower) : lower / upper;")
                .broken(DIVIDED, "return upper == 0 || lower == " + LEAST + " ? 0 : lower / upper;")
                .broken(REMAINING, "return upper == 0 ? 0 : lower == " + LEAST + " ? -1 : lower % upper;"),
            new Boundary("/ cut to 0", "with each sign", OpBoundaries::cut)
                .broken(DIVIDED, "return upper == 0 ? 0 : Math.floorDiv(lower, upper);")
                .broken(DIVIDED, "return upper == 0 ? 0 : -Math.floorDiv(-lower, upper);"),
            new Boundary("% with the sign of the first", "with each sign", OpBoundaries::signOfTheFirst)
                .broken(REMAINING, "return upper == 0 ? 0 : Math.floorMod(lower, upper);")
                .broken(REMAINING, "return upper == 0 ? 0 : Math.abs(lower % upper);"),
            new Boundary("by 0: 0", "/ of any by 0", OpBoundaries::quotientByZero)
                .broken(DIVIDED, "return upper == 0 ? lower : lower / upper;")
                .broken(DIVIDED, "return upper == 0 && lower != " + LEAST + " ? 0 : lower / upper;"),
            new Boundary("by 0: 0", "% of any by 0", OpBoundaries::remainderByZero)
                .broken(REMAINING, "return upper == 0 ? lower : lower % upper;")
                .broken(REMAINING, "return upper == 0 && lower != " + LEAST + " ? 0 : lower % upper;"),
            new Boundary("of the two on top, the lower one first", "what is below is not taken",
                OpBoundaries::lowerFirst)
                .broken("push(combined(op, lower, upper));", "push(combined(op, upper, lower));")
                .broken("push(combined(op, lower, upper));", "push(combined(op, stack[0], upper));"),
            new Boundary("the result instead of both", "one less on the stack", OpBoundaries::instead)
                .broken("int lower = pop();\n            push", "int lower = stack[height - 1];\n            push")
                .broken("push(combined(op, lower, upper));", "push(upper); push(combined(op, lower, upper));"),
            new Boundary("12: 1 if the lower one of the two on top is less, else 0",
                "the same is not less, and the least is less than the greatest", OpBoundaries::less)
                .broken("lower < upper ? 1 : 0", "lower <= upper ? 1 : 0")
                .broken("lower < upper ? 1 : 0", "lower - upper < 0 ? 1 : 0")
                .broken("lower < upper ? 1 : 0", "lower < upper ? -1 : 0")
                .broken("lower < upper ? 1 : 0", "Integer.compareUnsigned(lower, upper) < 0 ? 1 : 0"),
            new Boundary("13: 1 if both are the same, else 0", "in all bits", OpBoundaries::same)
                .broken("lower == upper ? 1 : 0", "(short) lower == (short) upper ? 1 : 0")
                .broken("lower == upper ? 1 : 0", "(lower ^ upper) << 1 == 0 ? 1 : 0")
                .broken("lower == upper ? 1 : 0", "lower == upper ? -1 : 0")
                .broken("lower == upper ? 1 : 0", "lower == upper ? 1 : -1"),
            new Boundary("14 go to instruction N", "on, back, to the next and to the first",
                OpBoundaries::go)
                .broken("return n;", "return Math.max(n, at + 1);")
                .broken("return n;", "return Math.max(n, 1);")
                .broken("return n;", "return n == at + 1 ? n + 1 : n;"),
            new Boundary("15 the top goes; if it is 0: go to N", "0 alone goes to N", OpBoundaries::goIfZero)
                .broken("pop() != 0", "pop() > 0")
                .broken("pop() != 0", "(pop() & 65535) != 0")
                .broken("pop() != 0", "pop() << 1 != 0")
                .broken("pop() != 0", "pop() == 0"),
            new Boundary("15 the top goes; if it is 0: go to N", "the top goes by both ways",
                OpBoundaries::topOfGoIfZero)
                .broken("pop() != 0", "stack[height - 1] != 0")
                .broken("pop() != 0", "pop() != 0 && height++ >= 0"),
            new Boundary("16 EMIT (MAP alone): key (the lower one) and value go, as a PAIR",
                "both go, and what is below stays", OpBoundaries::emit)
                .broken("int value = pop();\n            int key = pop();", "int key = pop(); int value = pop();")
                .broken("int key = pop();", "int key = stack[height - 1];")
                .broken("int key = pop();", "int key = pop(); pop();"),
            new Boundary("of MAP: nothing is on the stack or something, it does not matter",
                "17 with 0, 1 and 8", OpBoundaries::endOfMap)
                .broken("op == OP_FINISH && program.kind == MAP ? 0 : NEEDED[op]", "NEEDED[op]")
                .broken("return height >= needed && height", "return height >= needed"
                    + " && (op != OP_FINISH || program.kind != MAP || height == 0) && height"),
            new Boundary("of JOIN and FOLD: the top is the result, whatever is below", "1 and 8 in JOIN",
                OpBoundaries::endOfJoin)
                .broken("answer = pop();", "answer = stack[0];")
                .broken("answer = pop();", "answer = height == MAX_STACK ? 0 : pop();"),
            new Boundary("of JOIN and FOLD: the top is the result, whatever is below", "1 and 8 in FOLD",
                OpBoundaries::endOfFold)
                .broken("answer = pop();", "answer = stack[0];")
                .broken("answer = pop();", "answer = height == MAX_STACK ? 0 : pop();"),
            new Boundary("of END: the top is the result", "1 and 8", OpBoundaries::endOfEnd)
                .broken("answer = pop();", "answer = stack[0];")
                .broken("answer = pop();", "answer = height == MAX_STACK ? 0 : pop();"),
            new Boundary("18 the end without result (END alone)", "0 and 8 on the stack",
                OpBoundaries::leaveOut)
                .broken("op == OP_FINISH ? CALL_FINISHED : CALL_LEFT_OUT", "CALL_FINISHED")
                .broken("op == OP_FINISH ? CALL_FINISHED : CALL_LEFT_OUT",
                    "op == OP_FINISH || height > 0 ? CALL_FINISHED : CALL_LEFT_OUT"));
    }

    /** The program text of an op that stops at the ends of the ints. */
    private static String saturated(String lower, String sign) {
        return "return (int) Math.max(" + LEAST + "L, Math.min(" + GREATEST + "L, (long) " + lower + " "
            + sign + " upper));";
    }

    private static void number(Tester t) {
        int[] numbers = {LEAST, -65536, -1, 0, 1, 65536, GREATEST};
        for (int number : numbers) {
            t.maps("number", 5, 6, 5, number, 1, 0, 0, number, 16, 0, 17, 0);
        }
    }

    private static void argument(Tester t) {
        t.maps("the first of MAP", 5, 6, 9, 5, 0, 9, 1, 0, 16, 0, 17, 0);
        t.maps("the last of MAP", 5, 6, 9, 6, 0, 9, 1, 1, 16, 0, 17, 0);
        GrindField x = t.field(1, Tester.SAME_PAIR, new int[] {1, 0, 17, 0});
        t.records(x, 5, 6, 5, 7);
        t.runs("the first of FOLD", x, 5, 5);
        t.load(x, FOLD, 1, 2, 17, 0);
        t.runs("the last of FOLD", x, 5, 7);
    }

    private static void local(Tester t) {
        int[] locals = {0, 3};
        for (int local : locals) {
            t.maps("local " + local, 5, 6, 5, 6, 1, 0, 1, 1, 3, local, 0, 9, 3, 1, 0, 8, 3, 2,
                2, local, 16, 0, 17, 0);
            t.maps("twice " + local, 5, 6, 6, 6, 1, 1, 3, local, 2, local, 2, local, 16, 0, 17, 0);
        }
    }

    private static void store(Tester t) {
        for (int local = 0; local <= 3; local++) {
            t.maps("below", 5, 6, 7, 8, 0, 7, 0, 8, 0, 9, 3, local, 16, 0, 17, 0);
        }
    }

    private static void again(Tester t) {
        t.maps("twice", 5, 6, 6, 6, 1, 1, 4, 0, 16, 0, 17, 0);
        t.maps("the 8th", 5, 6, 3, 14, 0, 1, 0, 2, 0, 3, 0, 4, 0, 5, 0, 6, 0, 7, 4, 0,
            7, 0, 3, 0, 6, 0, 6, 0, 6, 0, 2, 0, 16, 0, 17, 0);
    }

    private static void swap(Tester t) {
        t.maps("two alone", 5, 6, 6, 5, 1, 0, 1, 1, 5, 0, 16, 0, 17, 0);
        t.maps("the lower one is on top", 5, 6, 3, 5, 0, 3, 1, 0, 1, 1, 5, 0, 3, 0, 6, 0, 2, 0, 5, 0, 5, 0,
            16, 0, 17, 0);
        t.maps("what is below", 5, 6, 3, 4, 0, 3, 0, 4, 1, 0, 1, 1, 5, 0, 6, 0, 6, 0, 16, 0, 17, 0);
    }

    private static void drop(Tester t) {
        t.maps("one goes", 5, 6, 5, 6, 1, 0, 1, 1, 0, 9, 6, 0, 16, 0, 17, 0);
        t.maps("the last goes", 5, 6, 5, 6, 0, 9, 6, 0, 1, 0, 1, 1, 16, 0, 17, 0);
        t.maps("7 of 8 go", 5, 6, 9, 1,
            Tester.behind(8, 6, 0, 6, 0, 6, 0, 6, 0, 6, 0, 6, 0, 6, 0, 0, 9, 5, 0, 16, 0, 17, 0));
    }

    private static void sumWraps(Tester t) {
        t.combines(GREATEST, 7, 1, LEAST);
        t.combines(GREATEST, 7, GREATEST, -2);
        t.combines(LEAST, 7, -1, GREATEST);
        t.combines(LEAST, 7, LEAST, 0);
        t.combines(GREATEST, 7, 0, GREATEST);
    }

    private static void differenceWraps(Tester t) {
        t.combines(LEAST, 8, 1, GREATEST);
        t.combines(GREATEST, 8, -1, LEAST);
        t.combines(0, 8, LEAST, LEAST);
        t.combines(LEAST, 8, GREATEST, 1);
        t.combines(LEAST, 8, 0, LEAST);
    }

    private static void productWraps(Tester t) {
        t.combines(65536, 9, 65536, 0);
        t.combines(46341, 9, 46341, -2147479015);
        t.combines(LEAST, 9, -1, LEAST);
        t.combines(GREATEST, 9, GREATEST, 1);
        t.combines(GREATEST, 9, -1, LEAST + 1);
    }

    private static void leastByMinusOne(Tester t) {
        t.combines(LEAST, 10, -1, LEAST);
        t.combines(LEAST, 11, -1, 0);
        t.combines(LEAST + 1, 10, -1, GREATEST);
        t.combines(LEAST, 10, 1, LEAST);
    }

    private static void cut(Tester t) {
        t.combines(7, 10, 2, 3);
        t.combines(-7, 10, 2, -3);
        t.combines(7, 10, -2, -3);
        t.combines(-7, 10, -2, 3);
        t.combines(1, 10, LEAST, 0);
        t.combines(-1, 10, GREATEST, 0);
    }

    private static void signOfTheFirst(Tester t) {
        t.combines(7, 11, 3, 1);
        t.combines(-7, 11, 3, -1);
        t.combines(7, 11, -3, 1);
        t.combines(-7, 11, -3, -1);
        t.combines(-6, 11, 3, 0);
        t.combines(LEAST, 11, GREATEST, -1);
        t.combines(GREATEST, 11, LEAST, GREATEST);
    }

    private static void quotientByZero(Tester t) {
        int[] numbers = {LEAST, -1, 0, 1, GREATEST};
        for (int number : numbers) {
            t.combines(number, 10, 0, 0);
        }
    }

    private static void remainderByZero(Tester t) {
        int[] numbers = {LEAST, -1, 0, 1, GREATEST};
        for (int number : numbers) {
            t.combines(number, 11, 0, 0);
        }
    }

    private static void lowerFirst(Tester t) {
        int[] wants = {19, 11, 60, 3, 3, 0, 0};
        for (int op = 7; op <= 13; op++) {
            t.maps("op " + op, 15, 4, 99, wants[op - 7], 0, 99, 1, 0, 1, 1, op, 0, 16, 0, 17, 0);
        }
    }

    private static void instead(Tester t) {
        for (int op = 7; op <= 13; op++) {
            t.maps("op " + op, 15, 4, 98, 99, 0, 98, 0, 99, 1, 0, 1, 1, op, 0, 6, 0, 16, 0, 17, 0);
        }
    }

    private static void less(Tester t) {
        t.combines(1, 12, 2, 1);
        t.combines(2, 12, 1, 0);
        t.combines(2, 12, 2, 0);
        t.combines(LEAST, 12, GREATEST, 1);
        t.combines(GREATEST, 12, LEAST, 0);
        t.combines(-1, 12, 0, 1);
        t.combines(LEAST, 12, LEAST, 0);
    }

    private static void same(Tester t) {
        t.combines(2, 13, 2, 1);
        t.combines(1, 13, 2, 0);
        t.combines(2, 13, 1, 0);
        t.combines(0, 13, 65536, 0);
        t.combines(LEAST, 13, 0, 0);
        t.combines(LEAST, 13, LEAST, 1);
        t.combines(LEAST, 13, GREATEST, 0);
    }

    private static void go(Tester t) {
        t.maps("on", 5, 6, 5, 6, 1, 0, 14, 3, 6, 0, 1, 1, 16, 0, 17, 0);
        t.maps("to the next", 5, 6, 5, 6, 1, 0, 14, 2, 1, 1, 16, 0, 17, 0);
        t.maps("back", 5, 6, 5, 6, 14, 3, 1, 1, 14, 5, 1, 0, 14, 1, 16, 0, 17, 0);
        // Local 0 is 0 in the first round alone.
        t.maps("to the first", 5, 6, 5, 3, 2, 0, 0, 1, 7, 0, 3, 0, 2, 0, 0, 3, 12, 0, 15, 9, 14, 0,
            1, 0, 2, 0, 16, 0, 17, 0);
    }

    private static void goIfZero(Tester t) {
        int[] others = {LEAST, -65536, -1, 1, 65536, GREATEST};
        int[] map = {0, 0, 1, 1, 15, 5, 0, 10, 14, 6, 0, 20, 16, 0, 17, 0};
        t.maps("0", 5, 0, 0, 20, map);
        for (int other : others) {
            t.maps("15 of " + other, 5, other, 0, 10, map);
        }
    }

    private static void topOfGoIfZero(Tester t) {
        int[] map = {0, 7, 0, 8, 1, 1, 15, 5, 14, 5, 16, 0, 17, 0};
        t.maps("by 0", 5, 0, 7, 8, map);
        t.maps("by 1", 5, 1, 7, 8, map);
    }

    private static void emit(Tester t) {
        t.maps("the lower one is the key", 5, 6, 6, 5, 1, 1, 1, 0, 16, 0, 17, 0);
        GrindField x = t.field(1, Tester.behind(8, 16, 0, 16, 0, 16, 0, 16, 0, 17, 0), Tester.SUM);
        x.record(9, 9);
        t.runs("8 are 4 pairs", x, 1, 2, 3, 4, 5, 6, 7, 8);
        t.due("pairs", x.count(1), 4);
    }

    private static void endOfMap(Tester t) {
        int[] heights = {0, 1, 8};
        for (int height : heights) {
            GrindField x = t.field(1, Tester.behind(height, 17, 0), Tester.SUM);
            x.record(1, 1);
            t.due("check", x.check(Tester.MAP), Tester.GOOD);
            t.runs("17 with " + height, x);
            t.due("pairs", x.count(1), 0);
        }
    }

    private static void endOfJoin(Tester t) {
        int[] heights = {1, 2, 8};
        for (int height : heights) {
            GrindField x = t.field(2, Tester.SAME_PAIR, Tester.SUM);
            t.load(x, JOIN, Tester.behind(height, 17, 0));
            t.records(x, 3, 50, 3, 60);
            t.runs("17 with " + height, x, 3, height);
        }
    }

    private static void endOfFold(Tester t) {
        int[] heights = {1, 2, 8};
        for (int height : heights) {
            GrindField x = t.field(1, Tester.SAME_PAIR, Tester.behind(height, 17, 0));
            t.records(x, 3, 50, 3, 60);
            t.runs("17 with " + height, x, 3, height);
        }
    }

    private static void endOfEnd(Tester t) {
        int[] heights = {1, 2, 8};
        for (int height : heights) {
            GrindField x = t.field(1, Tester.SAME_PAIR, Tester.SUM);
            t.load(x, END, Tester.behind(height, 17, 0));
            t.records(x, 3, 50);
            t.runs("17 with " + height, x, 3, height);
        }
    }

    private static void leaveOut(Tester t) {
        int[] heights = {0, 1, 8};
        for (int height : heights) {
            GrindField x = t.field(1, Tester.SAME_PAIR, Tester.SUM);
            t.load(x, END, Tester.behind(height, 18, 0));
            t.records(x, 3, 50);
            t.runs("18 with " + height, x);
            t.due("keys before END", x.count(3), 1);
        }
    }
}
