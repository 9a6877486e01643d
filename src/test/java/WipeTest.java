/** Promise 3: no records any more; programs and what the latest run told stay. */
public final class WipeTest {
    public static void main(String[] args) {
        Tester t = new Tester();
        tellsHowMany(t);
        leavesTheRest(t);
        leavesAnError(t);
        t.end();
    }

    private static void tellsHowMany(Tester t) {
        GrindField x = new GrindField(4, 1, 1);
        t.due("wipe of none", x.wipe(), 0);
        t.records(x, 1, 1, 2, 2, 3, 3, 4, 4, 5, 5);
        t.due("count(8)", x.count(8), 5);
        t.due("count(9)", x.count(9), 2);
        t.due("wipe", x.wipe(), 5);
        t.due("count(8)", x.count(8), 0);
        t.due("count(9)", x.count(9), 0);
        t.due("wipe again", x.wipe(), 0);
        t.due("record", x.record(1, 1), 0);
    }

    private static void leavesTheRest(Tester t) {
        GrindField x = t.field(2, Tester.SAME_PAIR, Tester.SUM);
        t.load(x, Tester.JOIN, Tester.SUM);
        t.load(x, Tester.END, 1, 1, 17, 0);
        t.records(x, 4, 1, 4, 2, 4, 3, 6, 9);
        t.due("run", x.run(0), 2);
        t.due("wipe", x.wipe(), 4);
        t.results("behind wipe", x, 4, 6, 6, 9);
        t.counts("behind wipe", x, -1, 4, 3, 2, 16, 4, 4, 4, 0, 0);
        for (int program = 0; program < 4; program++) {
            t.due("check(" + program + ")", x.check(program), GrindField.NONE);
        }
        t.due("run of no records", x.run(0), 0);
        t.results("no records", x);
        t.counts("no records", x, -1, 0, 0, 0, 0, 0, 0, 0, 0, 0);
    }

    private static void leavesAnError(Tester t) {
        GrindField x = t.field(1, Tester.ENDLESS, Tester.SUM);
        t.records(x, 1, 1);
        t.due("run", x.run(0), GrindField.FAILED);
        t.due("wipe", x.wipe(), 1);
        t.counts("behind wipe", x, 0, 0, 0, 0, 0, 0, 0, 0, 0, 0);
        t.due("run", x.run(0), 0);
        t.due("count(0)", x.count(0), -1);
    }
}
