/** Promise 9: the value of a key in the latest run. */
public final class ValueOfTest {
    private static final int LEAST = Integer.MIN_VALUE, GREATEST = Integer.MAX_VALUE;

    public static void main(String[] args) {
        Tester t = new Tester();
        GrindField x = t.field(2, Tester.SAME_PAIR, Tester.SUM);
        t.due("before the first run", x.valueOf(0), Tester.NO_VALUE);
        t.records(x, GREATEST, 1, LEAST, LEAST, 0, 0, -4, GREATEST, 6, 5, 6, 6);
        t.due("records alone", x.valueOf(6), Tester.NO_VALUE);
        t.due("run", x.run(0), 5);
        t.due("greatest", x.valueOf(GREATEST), 1);
        t.due("least", x.valueOf(LEAST), LEAST);
        t.due("0", x.valueOf(0), 0);
        t.due("-4", x.valueOf(-4), GREATEST);
        t.due("6", x.valueOf(6), 11);
        int[] others = {LEAST + 1, -5, -3, -1, 1, 5, 7, GREATEST - 1};
        for (int other : others) {
            t.due("valueOf(" + other + ")", x.valueOf(other), Tester.NO_VALUE);
        }
        ofTheLatestRun(t, x);
        t.end();
    }

    private static void ofTheLatestRun(Tester t, GrindField x) {
        // A key of 0 is left out.
        t.load(x, Tester.END, 1, 0, 15, 4, 1, 1, 17, 0, 18, 0);
        t.due("run", x.run(0), 4);
        t.due("left out", x.valueOf(0), Tester.NO_VALUE);
        t.due("not left out", x.valueOf(6), 11);
        x.wipe();
        t.due("behind wipe", x.valueOf(6), 11);
        t.load(x, Tester.MAP, 99, 0);
        t.due("run", x.run(0), GrindField.NONE);
        t.due("behind NONE", x.valueOf(6), 11);
        t.load(x, Tester.MAP, Tester.ENDLESS);
        t.records(x, 6, 1);
        t.due("run", x.run(0), GrindField.FAILED);
        t.due("behind FAILED", x.valueOf(6), Tester.NO_VALUE);
        t.due("behind FAILED", x.valueOf(0), Tester.NO_VALUE);
    }
}
