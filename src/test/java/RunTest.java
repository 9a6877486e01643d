/** Promise 7: a job is done, by the rules of ops, steps, pairs, joining, folding and ending. */
public final class RunTest {
    private static final int MAP = Tester.MAP, JOIN = Tester.JOIN;
    private static final int FOLD = Tester.FOLD, END = Tester.END;
    private static final int LEAST = Integer.MIN_VALUE, GREATEST = Integer.MAX_VALUE;
    private static final int[] MANY = Tester.MANY;

    public static void main(String[] args) {
        Tester t = new Tester();
        arithmetic(t);
        stackAndLocals(t);
        jumps(t);
        newForEachCall(t);
        stepsOfACall(t);
        pairsOfACall(t);
        pairsInAll(t);
        joinsInSplitsAlone(t);
        foldsInOrder(t);
        sortsKeys(t);
        ends(t);
        noCallForOneAlone(t);
        whichError(t);
        none(t);
        failedForgets(t);
        trouble(t);
        t.end();
    }

    private static void arithmetic(Tester t) {
        int[][] wants = {
            // lower, upper, then by op from 7 to 13
            {7, 3, 10, 4, 21, 2, 1, 0, 0},
            {3, 7, 10, -4, 21, 0, 3, 1, 0},
            {-7, 3, -4, -10, -21, -2, -1, 1, 0},
            {7, -3, 4, 10, -21, -2, 1, 0, 0},
            {-7, -3, -10, -4, 21, 2, -1, 1, 0},
            {5, 5, 10, 0, 25, 1, 0, 0, 1},
            {6, 0, 6, 6, 0, 0, 0, 0, 0},
            {-6, 0, -6, -6, 0, 0, 0, 1, 0},
            {0, 0, 0, 0, 0, 0, 0, 0, 1},
            {LEAST, -1, GREATEST, LEAST + 1, LEAST, LEAST, 0, 1, 0},
            {GREATEST, 1, LEAST, GREATEST - 1, GREATEST, GREATEST, 0, 0, 0},
            {LEAST, GREATEST, -1, 1, LEAST, -1, -1, 1, 0},
            {GREATEST, LEAST, -1, -1, LEAST, 0, GREATEST, 0, 0},
            {65536, 65536, 131072, 0, 0, 1, 0, 0, 1},
        };
        for (int[] want : wants) {
            for (int op = 7; op <= 13; op++) {
                long got = t.mapped(want[0], want[1],
                    0, 0, 1, 0, 1, 1, op, 0, 16, 0, 17, 0);
                t.due(want[0] + " op " + op + " " + want[1], got, want[op - 5]);
                // What is below stays as it was.
                long below = t.mapped(want[0], want[1],
                    0, 0, 0, 44, 1, 0, 1, 1, op, 0, 6, 0, 16, 0, 17, 0);
                t.due("below op " + op, below, 44);
            }
        }
    }

    private static void stackAndLocals(Tester t) {
        t.due("number", t.mapped(3, 4, 0, 0, 0, LEAST, 16, 0, 17, 0), LEAST);
        t.due("argument 0", t.mapped(3, 4, 0, 0, 1, 0, 16, 0, 17, 0), 3);
        t.due("argument 1", t.mapped(3, 4, 0, 0, 1, 1, 16, 0, 17, 0), 4);
        t.due("twice", t.mapped(3, 4, 0, 0, 1, 1, 4, 0, 9, 0, 16, 0, 17, 0), 16);
        t.due("not changed", t.mapped(3, 4, 1, 0, 1, 1, 16, 0, 17, 0), 4);
        t.due("changed", t.mapped(3, 4, 1, 0, 1, 1, 5, 0, 16, 0, 17, 0), 3);
        t.due("top gone", t.mapped(3, 4, 0, 0, 1, 0, 1, 1, 6, 0, 16, 0, 17, 0), 3);
        for (int local = 0; local < 4; local++) {
            t.due("local at first", t.mapped(3, 4, 0, 0, 2, local, 16, 0, 17, 0), 0);
            t.due("local", t.mapped(3, 4, 0, 0, 1, 1, 3, local, 2, local, 16, 0, 17, 0), 4);
            t.due("other local", t.mapped(3, 4, 0, 0, 1, 1, 3, (local + 1) % 4, 1, 0, 3, local,
                2, (local + 1) % 4, 16, 0, 17, 0), 4);
            t.due("top goes to local", t.mapped(3, 4, 0, 0, 1, 0, 1, 1, 3, local, 16, 0, 17, 0), 3);
        }
        t.due("key is the lower", t.mapped(3, 4, 1, 1, 1, 0, 16, 0, 17, 0), 3);
        GrindField x = t.field(1, new int[] {1, 0, 1, 1, 5, 0, 16, 0, 17, 0}, Tester.FIRST);
        t.records(x, 3, 4, 0, 9, -1, 0);
        t.due("run", x.run(0), 3);
        t.results("changed places", x, 0, -1, 4, 3, 9, 0);
        // 8 on the stack, all added.
        t.due("full stack", t.mapped(3, 4, 0, 1, 0, 2, 0, 3, 0, 4, 0, 5, 0, 6, 0, 7, 0, 8,
            7, 0, 7, 0, 7, 0, 7, 0, 7, 0, 7, 0, 16, 0, 17, 0), 35);
    }

    private static void jumps(Tester t) {
        int[] ifZero = {0, 0, 1, 1, 15, 5, 0, 10, 14, 6, 0, 20, 16, 0, 17, 0};
        t.due("15 with 0", t.mapped(0, 0, ifZero), 20);
        t.due("15 with 1", t.mapped(0, 1, ifZero), 10);
        t.due("15 with -1", t.mapped(0, -1, ifZero), 10);
        t.due("15 with the least", t.mapped(0, LEAST, ifZero), 10);
        t.due("14", t.mapped(0, 1, 14, 4, 0, 0, 0, 99, 14, 6, 0, 0, 0, 5, 16, 0, 17, 0), 5);
    }

    private static void newForEachCall(Tester t) {
        // Each MAP sends what local 0 was, and then leaves much behind.
        GrindField x = t.field(1,
            new int[] {1, 0, 2, 0, 16, 0, 0, 7, 3, 0, 0, 8, 0, 9, 17, 0}, Tester.SUM);
        t.records(x, 1, 1, 2, 2, 3, 3);
        t.due("run", x.run(0), 3);
        t.results("locals are new", x, 1, 0, 2, 0, 3, 0);
        // FOLD, too, and its result is the top, whatever is below.
        t.load(x, MAP, Tester.SAME_PAIR);
        t.load(x, FOLD, 1, 1, 0, 100, 2, 3, 1, 2, 7, 0, 0, 50, 3, 3, 17, 0);
        t.records(x, 1, 5, 1, 6);
        t.due("run", x.run(0), 3);
        t.results("result is the top", x, 1, 6, 2, 2, 3, 3);
    }

    private static void stepsOfACall(Tester t) {
        GrindField x = t.field(4, Tester.stepping(300), Tester.SUM);
        t.records(x, 1, 1, 1, 1);
        t.due("300 steps of MAP", x.run(0), 0);
        t.due("count(4)", x.count(4), 600);
        t.load(x, MAP, Tester.stepping(301));
        t.failed("301 steps of MAP", x, 0);
        t.load(x, MAP, Tester.SAME_PAIR);
        int[] programs = {JOIN, FOLD, END};
        for (int program : programs) {
            t.load(x, JOIN, program == FOLD ? new int[0] : Tester.SUM);
            t.load(x, FOLD, Tester.SUM);
            t.load(x, program, Tester.stepping(300));
            t.due("300 steps", x.run(0), 1);
            t.due("count", x.count(4 + program), 300);
            t.load(x, program, Tester.stepping(301));
            t.failed("301 steps", x, program * 1000);
            t.load(x, program);
        }
        // An 18 is a step, too.
        t.load(x, JOIN, Tester.SUM);
        t.load(x, FOLD, Tester.SUM);
        int[] leaving = Tester.stepping(300);
        leaving[leaving.length - 2] = 18;
        t.load(x, END, leaving);
        t.due("300 steps to 18", x.run(0), 0);
        t.due("count(7)", x.count(7), 300);
        leaving = Tester.stepping(301);
        leaving[leaving.length - 2] = 18;
        t.load(x, END, leaving);
        t.failed("301 steps to 18", x, 3000);
    }

    private static void pairsOfACall(Tester t) {
        GrindField x = t.field(4, MANY, Tester.SUM);
        t.records(x, 1, 20, 2, 0, 3, 1, 4, 20);
        t.due("20 pairs", x.run(0), 3);
        t.results("20 pairs", x, 1, 210, 3, 1, 4, 210);
        t.due("count(1)", x.count(1), 41);
        t.records(x, 5, 21);
        t.failed("21 pairs", x, 4);
        t.records(x, 6, 22);
        t.failed("the first of two", x, 4);
    }

    private static void pairsInAll(Tester t) {
        GrindField x = t.field(4, MANY, Tester.SUM);
        for (int i = 0; i < 30; i++) {
            x.record(i % 7, 20);
        }
        t.due("600 pairs", x.run(0), 7);
        t.due("count(1)", x.count(1), 600);
        t.due("count(2)", x.count(2), 600);
        t.records(x, 9, 0);
        t.due("600 pairs still", x.run(0), 7);
        t.records(x, 9, 1);
        t.failed("601 pairs", x, 4000);
        t.load(x, JOIN, Tester.SUM);
        t.failed("601 pairs, joined less", x, 4000);
        t.load(x, JOIN, Tester.ENDLESS);
        t.failed("601 pairs, JOIN would fail", x, 4000);
        t.load(x, JOIN);
        t.load(x, FOLD, Tester.ENDLESS);
        t.failed("601 pairs, FOLD would fail", x, 4000);
        t.records(x, 9, 21);
        t.failed("a MAP behind 601 pairs", x, 32);
        while (x.record(0, 20) >= 0) {
            t.due("more", x.count(0), 32);
        }
        t.failed("a MAP among very many", x, 32);
    }

    private static void joinsInSplitsAlone(Tester t) {
        // JOIN is the difference, FOLD the sum: who joined what shows.
        for (int size = 1; size <= 6; size++) {
            GrindField x = t.field(size, Tester.SAME_PAIR, Tester.SUM);
            t.load(x, JOIN, 1, 1, 1, 2, 8, 0, 17, 0);
            t.records(x, 1, 100, 1, 10, 1, 1000, 1, 1, 1, 5);
            int[] wants = {1116, 90 + 999 + 5, -910 - 4, -911 + 5, -916, -916};
            int[] values = {5, 3, 2, 2, 1, 1};
            t.due("run", x.run(0), 1);
            t.results("size " + size, x, 1, wants[size - 1]);
            t.due("count(2)", x.count(2), values[size - 1]);
        }
        // By keys: one JOIN does not see another key; argument 0 is the key.
        GrindField x = t.field(4, Tester.SAME_PAIR, Tester.ORDER);
        t.load(x, JOIN, 1, 1, 0, 10, 9, 0, 1, 2, 7, 0, 1, 0, 7, 0, 17, 0);
        t.records(x, 100, 1, 200, 5, 100, 2, 200, 6, 100, 3, 300, 7, 200, 8, 100, 9);
        t.due("run", x.run(0), 3);
        t.results("by keys", x, 100, 112 * 31 + 139, 200, 256 * 31 + 8, 300, 7);
        t.counts("by keys", x, -1, 8, 5, 3, 32, 24, 12, 0, 8, 2);
    }

    private static void foldsInOrder(Tester t) {
        GrindField x = t.field(2, Tester.SAME_PAIR, Tester.ORDER);
        t.records(x, 5, 1, 4, 2, 5, 3, 5, 4, 4, 5, 5, 6);
        t.due("run", x.run(0), 2);
        t.results("order", x, 4, 2 * 31 + 5, 5, ((31 + 3) * 31 + 4) * 31 + 6);
        // The pairs of one record come in their order, too, and argument 0 is the key.
        t.load(x, MAP, 1, 0, 1, 1, 16, 0, 1, 0, 0, 9, 16, 0, 17, 0);
        t.load(x, FOLD, 1, 1, 1, 0, 9, 0, 1, 2, 7, 0, 17, 0);
        t.due("run", x.run(0), 2);
        int four = ((2 * 4 + 9) * 4 + 5) * 4 + 9;
        int five = ((((((5 + 9) * 5 + 3) * 5 + 9) * 5 + 4) * 5 + 9) * 5 + 6) * 5 + 9;
        t.results("order of pairs", x, 4, four, 5, five);
    }

    private static void sortsKeys(Tester t) {
        GrindField x = t.field(3, Tester.SAME_PAIR, Tester.SUM);
        t.records(x, 0, 1, GREATEST, 2, -1, 3, LEAST, 4, 1, 5, LEAST + 1, 6, -2, 7, 0, 8);
        t.due("run", x.run(0), 7);
        t.results("sorted", x, LEAST, 4, LEAST + 1, 6, -2, 7, -1, 3, 0, 9, 1, 5, GREATEST, 2);
        // 600 keys, none twice: from a record (k, 20) the pairs (k + 20, 20) to (k + 1, 1).
        t.load(x, MAP, 1, 1, 3, 0, 2, 0, 15, 14, 1, 0, 2, 0, 7, 0, 2, 0, 16, 0,
            2, 0, 0, 1, 8, 0, 3, 0, 14, 2, 17, 0);
        x.wipe();
        for (int i = 0; i < 30; i++) {
            x.record(i * 7 % 30 * 20 - 300, 20);
        }
        t.due("run", x.run(0), 600);
        for (int k = 0; k < 600; k++) {
            t.due("key " + k, x.result(k, 0), k - 299);
            t.due("value " + k, x.result(k, 1), k % 20 + 1);
            t.due("valueOf " + k, x.valueOf(k - 299), k % 20 + 1);
        }
        t.due("behind", x.valueOf(301), Tester.NO_VALUE);
        t.due("before", x.valueOf(-300), Tester.NO_VALUE);
        t.counts("600 keys", x, -1, 600, 600, 600, 30 * 245, 0, 0, 0, 30, 10);
    }

    private static void ends(Tester t) {
        GrindField x = t.field(3, Tester.SAME_PAIR, Tester.SUM);
        // A value below 10 is left out, of others the key * 100 + value is the result.
        t.load(x, END, 1, 1, 0, 10, 12, 0, 15, 5, 18, 0, 0, 77, 1, 0, 0, 100, 9, 0, 1, 1, 7, 0,
            17, 0);
        t.records(x, 3, 9, 2, 5, 1, 10, 2, 6, 5, 1, 4, 20);
        t.due("run", x.run(0), 3);
        t.results("ends", x, 1, 110, 2, 211, 4, 420);
        t.due("left out", x.valueOf(3), Tester.NO_VALUE);
        t.counts("ends", x, -1, 6, 6, 5, 24, 0, 4, 3 * 11 + 2 * 5, 6, 2);
        t.load(x, END, 18, 0);
        t.due("all are left out", x.run(0), 0);
        t.results("all are left out", x);
        t.due("valueOf", x.valueOf(1), Tester.NO_VALUE);
        t.counts("all are left out", x, -1, 6, 6, 5, 24, 0, 4, 5, 6, 2);
    }

    private static void noCallForOneAlone(Tester t) {
        GrindField x = t.field(2, Tester.SAME_PAIR, Tester.ENDLESS);
        t.load(x, JOIN, Tester.ENDLESS);
        t.records(x, 1, 1, 2, 2, 3, 3, 4, 4);
        t.due("run", x.run(0), 4);
        t.results("one alone", x, 1, 1, 2, 2, 3, 3, 4, 4);
        t.counts("one alone", x, -1, 4, 4, 4, 16, 0, 0, 0);
        t.load(x, FOLD, Tester.SUM);
        t.records(x, 3, 5, 1, 6);
        t.due("one in each split", x.run(0), 4);
        t.results("one in each split", x, 1, 7, 2, 2, 3, 8, 4, 4);
    }

    private static void whichError(Tester t) {
        GrindField x = t.field(2, MANY, Tester.ENDLESS);
        t.load(x, JOIN, Tester.ENDLESS);
        t.load(x, END, Tester.ENDLESS);
        t.records(x, 1, 1, 2, 1, 3, 1, 3, 1, 4, 1, 4, 1, 1, 1, 7, 21, 7, 22);
        t.failed("MAP before all", x, 7);
        x.wipe();
        t.records(x, 1, 1, 2, 1, 3, 1, 3, 1, 4, 1, 4, 1, 1, 1);
        t.failed("JOIN before FOLD, least split", x, 1001);
        t.load(x, JOIN);
        t.failed("FOLD before END", x, 2000);
        t.load(x, FOLD, Tester.SUM);
        t.failed("END at last", x, 3000);
        t.load(x, END);
        t.due("no error", x.run(0), 4);
        // A JOIN of the last of 120 splits of 1: two pairs of one record.
        t.load(x, FOLD, Tester.SUM);
        t.load(x, JOIN, Tester.ENDLESS);
        GrindField y = t.field(1, MANY, Tester.SUM);
        t.load(y, JOIN, Tester.ENDLESS);
        for (int i = 0; i < 119; i++) {
            y.record(i % 3, 1);
        }
        y.record(1, 2);
        t.failed("last split", y, 1119);
        // The END of one key fails, that of others does not.
        GrindField z = t.field(1, Tester.SAME_PAIR, Tester.SUM);
        t.load(z, END, 1, 0, 15, 3, 18, 0, 14, 3);
        t.records(z, 2, 2, 1, 1);
        t.due("all left out", z.run(0), 0);
        t.records(z, 0, 0);
        t.failed("END of a key", z, 3000);
    }

    private static void none(Tester t) {
        GrindField x = t.field(2, Tester.SAME_PAIR, Tester.SUM);
        t.records(x, 1, 5, 1, 6);
        t.due("run", x.run(0), 1);
        int[][] wrong = {{17, 0, 99, 0}, {18, 0, 99, 0}};
        for (int program = 0; program < 4; program++) {
            t.load(x, program, wrong[program == END ? 1 : 0]);
            t.due("WRONG " + program, x.run(0), GrindField.NONE);
            t.results("stay", x, 1, 11);
            t.counts("stay", x, -1, 2, 2, 1, 8, 0, 4, 0, 2, 1);
            t.load(x, program);
            boolean needed = program == MAP || program == FOLD;
            t.due("without " + program, x.run(0), needed ? GrindField.NONE : 1);
            t.results("stay", x, 1, 11);
            t.load(x, program, program == MAP ? Tester.SAME_PAIR
                : program == FOLD ? Tester.SUM : new int[0]);
        }
        t.load(x, MAP, Tester.ENDLESS);
        t.failed("an error", x, 0);
        t.load(x, MAP);
        t.due("run", x.run(0), GrindField.NONE);
        t.due("the error stays", x.count(0), 0);
    }

    private static void failedForgets(Tester t) {
        GrindField x = t.field(2, MANY, Tester.SUM);
        t.records(x, 1, 5, 1, 6);
        t.due("run", x.run(0), 1);
        t.records(x, 2, 21);
        t.failed("MAP", x, 2);
        t.due("valueOf", x.valueOf(1), Tester.NO_VALUE);
        x.wipe();
        t.records(x, 3, 5);
        t.due("run", x.run(0), 1);
        t.results("again", x, 3, 15);
        t.counts("again", x, -1, 5, 5, 1, 6 + 5 * 10 - 1, 0, 16, 0, 1, 1);
    }

    private static void trouble(Tester t) {
        GrindField x = t.field(2, Tester.SAME_PAIR, Tester.ORDER);
        t.load(x, JOIN, Tester.ORDER);
        t.records(x, 1, 5, 1, 6, 2, 7, 1, 8, -1, 9);
        int[] troubles = {LEAST, -12345, -1, 0, 1, 2, 3, 63, 64, 4096, 99999, GREATEST};
        for (int trouble : troubles) {
            t.due("run(" + trouble + ")", x.run(trouble), 3);
            t.results("trouble " + trouble, x, -1, 9, 1, (5 * 31 + 6) * 31 + 8, 2, 7);
            t.counts("trouble " + trouble, x, -1, 5, 4, 3, 20, 6, 6, 0, 5, 3);
        }
    }
}
