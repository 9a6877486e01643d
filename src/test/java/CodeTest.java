/** Promise 4: instructions come behind a program, 64 at most. */
public final class CodeTest {
    private static final int[] ANY =
        {Integer.MIN_VALUE, -1, 0, 7, 16, 18, 19, 64, Integer.MAX_VALUE};

    public static void main(String[] args) {
        Tester t = new Tester();
        numbersAndFull(t);
        anyOpAndN(t);
        otherPrograms(t);
        leavesTheRest(t);
        t.end();
    }

    private static void numbersAndFull(Tester t) {
        GrindField x = new GrindField(1, 1, 1);
        for (int i = 0; i < 64; i++) {
            for (int program = 0; program < 4; program++) {
                t.due("code " + i + " of " + program, x.code(program, 14, i), i);
            }
        }
        for (int program = 0; program < 4; program++) {
            t.due("one more", x.code(program, 99, 0), GrindField.FULL);
            t.due("one more", x.code(program, 17, 0), GrindField.FULL);
            t.due("check", x.check(program), GrindField.NONE);
            t.due("clear", x.clear(program), 64);
            t.due("code", x.code(program, 17, 0), 0);
        }
    }

    private static void anyOpAndN(Tester t) {
        GrindField x = new GrindField(1, 1, 1);
        for (int program = 0; program < 4; program++) {
            int number = 0;
            for (int op : ANY) {
                for (int i = 0; i < 7; i++) {
                    t.due("code of any", x.code(program, op, ANY[i]), number);
                    number++;
                }
            }
            t.due("check", x.check(program), 0);
        }
    }

    private static void otherPrograms(Tester t) {
        GrindField x = new GrindField(1, 1, 1);
        int[] others = {Integer.MIN_VALUE, -1, 4, 5, Integer.MAX_VALUE};
        for (int other : others) {
            t.due("code of " + other, x.code(other, 17, 0), GrindField.REFUSED);
        }
        for (int program = 0; program < 4; program++) {
            t.due("check", x.check(program), 64);
            for (int i = 0; i < 64; i++) {
                x.code(program, 17, 0);
            }
        }
        t.due("other of full ones", x.code(4, 17, 0), GrindField.REFUSED);
        t.due("other of full ones", x.code(-1, 17, 0), GrindField.REFUSED);
    }

    private static void leavesTheRest(Tester t) {
        GrindField x = t.field(2, Tester.SAME_PAIR, Tester.SUM);
        t.records(x, 4, 1, 4, 2);
        t.due("run", x.run(0), 1);
        t.due("code", x.code(Tester.MAP, 99, 0), 4);
        t.due("code", x.code(Tester.END, 18, 0), 0);
        t.results("behind code", x, 4, 3);
        t.counts("behind code", x, -1, 2, 2, 1, 8, 0, 4, 0, 2, 1);
    }
}
