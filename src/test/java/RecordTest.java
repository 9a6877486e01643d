/** Promise 2: records come, are numbered, and are 120 at most. */
public final class RecordTest {
    public static void main(String[] args) {
        Tester t = new Tester();
        numbersAndFull(t);
        anyKeyAndValue(t);
        comesBetweenRuns(t);
        t.end();
    }

    private static void numbersAndFull(Tester t) {
        GrindField x = t.field(7, Tester.SAME_PAIR, Tester.SUM);
        for (int i = 0; i < 120; i++) {
            t.due("record " + i, x.record(5, 1), i);
        }
        t.due("count(8)", x.count(8), 120);
        t.due("one more", x.record(5, 1000), GrindField.FULL);
        t.due("one more", x.record(6, 1000), GrindField.FULL);
        t.due("count(8)", x.count(8), 120);
        t.due("run", x.run(0), 1);
        t.results("full", x, 5, 120);
        t.due("wipe", x.wipe(), 120);
        t.due("record behind wipe", x.record(6, 7), 0);
        t.due("run", x.run(0), 1);
        t.results("behind wipe", x, 6, 7);
    }

    private static void anyKeyAndValue(Tester t) {
        GrindField x = t.field(2, Tester.SAME_PAIR, Tester.SUM);
        int least = Integer.MIN_VALUE;
        int greatest = Integer.MAX_VALUE;
        t.records(x, greatest, least, 0, 0, least, greatest, -1, -1, -1, -1);
        t.due("run", x.run(0), 4);
        t.results("edges", x, least, greatest, -1, -2, 0, 0, greatest, least);
    }

    private static void comesBetweenRuns(Tester t) {
        GrindField x = t.field(2, Tester.SAME_PAIR, Tester.SUM);
        t.records(x, 1, 1);
        t.due("run", x.run(0), 1);
        t.due("record", x.record(1, 1), 1);
        t.results("before the next run", x, 1, 1);
        t.due("run", x.run(0), 1);
        t.results("behind the next run", x, 1, 2);
    }
}
