/** Promise 8: the k-th result of the latest run. */
public final class ResultTest {
    private static final int[] NOT_THERE = {Integer.MIN_VALUE, -1, 3, 4, 600, Integer.MAX_VALUE};
    private static final int[] NOT_TOLD = {Integer.MIN_VALUE, -1, 2, 3, Integer.MAX_VALUE};

    public static void main(String[] args) {
        Tester t = new Tester();
        GrindField x = t.field(2, Tester.SAME_PAIR, Tester.SUM);
        noneIsThere(t, "before the first run", x);
        t.records(x, 7, Integer.MAX_VALUE, -7, -1, 0, Integer.MIN_VALUE);
        noneIsThere(t, "records alone", x);
        t.due("run", x.run(0), 3);
        t.due("key 0", x.result(0, 0), -7);
        t.due("value 0", x.result(0, 1), -1);
        t.due("key 1", x.result(1, 0), 0);
        t.due("value 1", x.result(1, 1), Integer.MIN_VALUE);
        t.due("key 2", x.result(2, 0), 7);
        t.due("value 2", x.result(2, 1), Integer.MAX_VALUE);
        for (int k : NOT_THERE) {
            t.due("key " + k, x.result(k, 0), Tester.NO_VALUE);
            t.due("value " + k, x.result(k, 1), Tester.NO_VALUE);
            t.due("both wrong", x.result(k, 2), Tester.NO_VALUE);
        }
        for (int what : NOT_TOLD) {
            t.due("what " + what, x.result(0, what), Tester.NO_VALUE);
            t.due("what " + what, x.result(2, what), Tester.NO_VALUE);
        }
        ofTheLatestRun(t, x);
        t.end();
    }

    private static void noneIsThere(Tester t, String name, GrindField x) {
        for (int k = -1; k < 3; k++) {
            t.due(name, x.result(k, 0), Tester.NO_VALUE);
            t.due(name, x.result(k, 1), Tester.NO_VALUE);
        }
    }

    private static void ofTheLatestRun(Tester t, GrindField x) {
        x.wipe();
        t.records(x, 8, 1);
        t.due("run", x.run(0), 1);
        t.results("fewer", x, 8, 1);
        t.due("one of before", x.result(2, 0), Tester.NO_VALUE);
        t.load(x, Tester.FOLD);
        t.due("run", x.run(0), GrindField.NONE);
        t.results("behind NONE", x, 8, 1);
        t.load(x, Tester.FOLD, Tester.SUM);
        t.load(x, Tester.END, Tester.ENDLESS);
        t.due("run", x.run(0), GrindField.FAILED);
        noneIsThere(t, "behind FAILED", x);
    }
}
