/** Promise 1: what a new object is, and that size, workers and parts are clamped. */
public final class NewObjectTest {
    private static final int[] EDGES =
        {Integer.MIN_VALUE, -1, 0, 1, 2, 5, 6, 7, 8, 9, 16, 17, Integer.MAX_VALUE};

    public static void main(String[] args) {
        Tester t = new Tester();
        isEmpty(t);
        clampsSize(t);
        workersAndPartsMakeNoDifference(t);
        objectsAreApart(t);
        t.end();
    }

    private static void isEmpty(Tester t) {
        GrindField x = new GrindField(3, 2, 2);
        t.counts("new", x, -1, 0, 0, 0, 0, 0, 0, 0, 0, 0);
        t.results("new", x);
        t.due("valueOf(0)", x.valueOf(0), Tester.NO_VALUE);
        for (int program = 0; program < 4; program++) {
            t.due("check(" + program + ")", x.check(program), 64);
            t.due("clear(" + program + ")", x.clear(program), 0);
        }
        t.due("run(0)", x.run(0), GrindField.NONE);
        t.due("wipe()", x.wipe(), 0);
    }

    private static void clampsSize(Tester t) {
        for (int size = 1; size <= 16; size++) {
            t.due("splits of size " + size, splitsOfAll(size), (119 + size) / size);
        }
        t.due("splits of size 0", splitsOfAll(0), 120);
        t.due("splits of size -7", splitsOfAll(-7), 120);
        t.due("splits of the least size", splitsOfAll(Integer.MIN_VALUE), 120);
        t.due("splits of size 17", splitsOfAll(17), 8);
        t.due("splits of the greatest size", splitsOfAll(Integer.MAX_VALUE), 8);
        GrindField x = new GrindField(17, 1, 1);
        t.records(x, new int[32]);
        t.due("splits of 16 records", x.count(9), 1);
        x.record(0, 0);
        t.due("splits of 17 records", x.count(9), 2);
    }

    private static int splitsOfAll(int size) {
        GrindField x = new GrindField(size, 1, 1);
        for (int i = 0; i < 120; i++) {
            x.record(i, i);
        }
        return x.count(9);
    }

    private static void workersAndPartsMakeNoDifference(Tester t) {
        for (int workers : EDGES) {
            for (int parts : EDGES) {
                GrindField x = new GrindField(2, workers, parts);
                t.load(x, Tester.MAP, Tester.SAME_PAIR);
                t.load(x, Tester.JOIN, Tester.ORDER);
                t.load(x, Tester.FOLD, Tester.ORDER);
                t.records(x, 9, 1, 9, 2, -9, 3, 9, 4, 9, 5);
                String name = workers + " workers, " + parts + " parts";
                t.due(name, x.run(workers ^ parts), 2);
                t.results(name, x, -9, 3, 9, ((1 * 31 + 2) * 31 + 4) * 31 + 5);
                t.counts(name, x, -1, 5, 4, 2, 20, 6, 12, 0, 5, 3);
            }
        }
    }

    private static void objectsAreApart(Tester t) {
        GrindField one = t.field(1, Tester.SAME_PAIR, Tester.SUM);
        GrindField other = new GrindField(1, 1, 1);
        one.record(1, 2);
        one.run(0);
        t.counts("other", other, -1, 0, 0, 0, 0, 0, 0, 0, 0, 0);
        t.due("check of other", other.check(0), 64);
        t.results("other", other);
        t.results("one", one, 1, 2);
    }
}
