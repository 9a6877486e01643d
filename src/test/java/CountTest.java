/** Promise 10: what is counted of the latest run, and the records and splits of now. */
public final class CountTest {
    public static void main(String[] args) {
        Tester t = new Tester();
        beforeTheFirst(t);
        others(t);
        ofARun(t);
        ofAnError(t);
        recordsAndSplits(t);
        t.end();
    }

    private static void beforeTheFirst(Tester t) {
        GrindField x = t.field(2, Tester.SAME_PAIR, Tester.SUM);
        t.counts("new", x, -1, 0, 0, 0, 0, 0, 0, 0, 0, 0);
        t.records(x, 1, 1, 1, 2, 1, 3);
        t.counts("records alone", x, -1, 0, 0, 0, 0, 0, 0, 0, 3, 2);
        t.load(x, Tester.JOIN, 99, 0);
        t.due("run", x.run(0), GrindField.NONE);
        t.counts("behind NONE", x, -1, 0, 0, 0, 0, 0, 0, 0, 3, 2);
    }

    private static void others(Tester t) {
        GrindField x = t.field(2, Tester.SAME_PAIR, Tester.SUM);
        int[] others = {Integer.MIN_VALUE, -2, -1, 10, 11, 64, Integer.MAX_VALUE};
        for (int other : others) {
            t.due("count(" + other + ")", x.count(other), GrindField.REFUSED);
        }
        t.due("run", x.run(0), 0);
        for (int other : others) {
            t.due("count(" + other + ")", x.count(other), GrindField.REFUSED);
        }
    }

    /** Calls of each program, with other numbers of steps by the way they go. */
    private static void ofARun(Tester t) {
        GrindField x = new GrindField(3, 2, 3);
        // A value of 0: no pair, 3 steps; else two pairs, of key and key + 1: 11 steps.
        t.load(x, Tester.MAP, 1, 1, 15, 11, 1, 0, 1, 1, 16, 0, 1, 0, 0, 1, 7, 0, 1, 1, 16, 0,
            17, 0, 17, 0);
        // 4 steps each.
        t.load(x, Tester.JOIN, Tester.SUM);
        // 6 steps each.
        t.load(x, Tester.FOLD, Tester.ORDER);
        // Key 4 is left out with 5 steps, others have 6.
        t.load(x, Tester.END, 1, 0, 0, 4, 13, 0, 15, 5, 18, 0, 1, 1, 17, 0);
        t.records(x, 1, 5, 2, 6, 9, 0, 1, 7, 1, 8, 3, 9, 9, 0);
        // Split 0: 1 2 2 3; split 1: 1 2 1 2 3 4; split 2: none.
        t.due("run", x.run(0), 3);
        t.results("run", x, 1, 5 * 31 + 15, 2, 11 * 31 + 15, 3, 6 * 31 + 9);
        t.counts("run", x, -1, 10, 7, 4, 5 * 11 + 2 * 3, 12, 18, 3 * 6 + 5, 7, 3);
        t.due("run again", x.run(0), 3);
        t.counts("run again", x, -1, 10, 7, 4, 61, 12, 18, 23, 7, 3);
        t.load(x, Tester.END);
        t.due("without END", x.run(0), 4);
        t.counts("without END", x, -1, 10, 7, 4, 61, 12, 18, 0, 7, 3);
        t.load(x, Tester.JOIN);
        t.due("without JOIN", x.run(0), 4);
        t.counts("without JOIN", x, -1, 10, 10, 4, 61, 0, 36, 0, 7, 3);
        t.records(x, 3, 3, 4, 4);
        t.counts("behind records", x, -1, 10, 10, 4, 61, 0, 36, 0, 9, 3);
    }

    private static void ofAnError(Tester t) {
        GrindField x = t.field(2, Tester.SAME_PAIR, Tester.SUM);
        t.records(x, 1, 1, 1, 2, 1, 3, 4, 4, 5, 5);
        t.due("run", x.run(0), 3);
        t.counts("no error", x, -1, 5, 5, 3, 20, 0, 8, 0, 5, 3);
        int[] programs = {Tester.END, Tester.FOLD, Tester.JOIN, Tester.MAP};
        for (int program : programs) {
            t.load(x, program, Tester.ENDLESS);
            t.due("run", x.run(0), GrindField.FAILED);
            t.counts("error", x, program * 1000, 0, 0, 0, 0, 0, 0, 0, 5, 3);
        }
        t.load(x, Tester.MAP, 99, 0);
        t.due("run", x.run(0), GrindField.NONE);
        t.counts("error stays", x, 0, 0, 0, 0, 0, 0, 0, 0, 5, 3);
    }

    private static void recordsAndSplits(Tester t) {
        for (int size = 1; size <= 16; size++) {
            GrindField x = new GrindField(size, 1, 1);
            for (int records = 0; records < 120; records++) {
                t.due("records", x.count(8), records);
                t.due("splits", x.count(9), (records + size - 1) / size);
                x.record(1, 1);
            }
            x.record(1, 1);
            t.due("records", x.count(8), 120);
            t.due("splits", x.count(9), (119 + size) / size);
        }
    }
}
