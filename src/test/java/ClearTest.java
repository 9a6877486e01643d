/** Promise 5: a program has no instructions any more; all else stays. */
public final class ClearTest {
    public static void main(String[] args) {
        Tester t = new Tester();
        tellsHowMany(t);
        otherPrograms(t);
        leavesTheRest(t);
        t.end();
    }

    private static void tellsHowMany(Tester t) {
        GrindField x = new GrindField(1, 1, 1);
        for (int program = 0; program < 4; program++) {
            t.load(x, program, new int[2 * (program + 1)]);
        }
        for (int program = 3; program >= 0; program--) {
            t.due("clear(" + program + ")", x.clear(program), program + 1);
            t.due("check(" + program + ")", x.check(program), 64);
            t.due("clear again", x.clear(program), 0);
            t.due("code", x.code(program, 17, 0), 0);
        }
    }

    private static void otherPrograms(Tester t) {
        GrindField x = new GrindField(1, 1, 1);
        t.load(x, Tester.MAP, Tester.SAME_PAIR);
        t.load(x, Tester.END, 18, 0);
        int[] others = {Integer.MIN_VALUE, -1, 4, 5, Integer.MAX_VALUE};
        for (int other : others) {
            t.due("clear of " + other, x.clear(other), GrindField.REFUSED);
        }
        t.due("clear of MAP", x.clear(Tester.MAP), 4);
        t.due("clear of END", x.clear(Tester.END), 1);
    }

    private static void leavesTheRest(Tester t) {
        GrindField x = t.field(2, Tester.SAME_PAIR, Tester.SUM);
        t.load(x, Tester.JOIN, Tester.SUM);
        t.records(x, 4, 1, 4, 2);
        t.due("run", x.run(0), 1);
        t.due("clear", x.clear(Tester.MAP), 4);
        t.results("behind clear", x, 4, 3);
        t.counts("behind clear", x, -1, 2, 1, 1, 8, 4, 0, 0, 2, 1);
        t.due("run without MAP", x.run(0), GrindField.NONE);
        t.due("check of JOIN", x.check(Tester.JOIN), GrindField.NONE);
        t.load(x, Tester.MAP, Tester.SAME_PAIR);
        t.due("clear of JOIN", x.clear(Tester.JOIN), 4);
        t.due("run without JOIN", x.run(0), 1);
        t.counts("without JOIN", x, -1, 2, 2, 1, 8, 0, 4, 0, 2, 1);
    }
}
