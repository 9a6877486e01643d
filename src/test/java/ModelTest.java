import java.util.ArrayList;
import java.util.List;

/** Many runs of calls with arbitrary programs: the answers are those of the model. */
public final class ModelTest {
    private static final int RUNS = 3000;
    private static final int CALLS = 512;
    private static final int[] EDGES = {Integer.MIN_VALUE, Integer.MIN_VALUE + 1, -1, 0, 1, 2, 3, 4,
        8, 16, 17, 20, 63, 64, 119, 120, Integer.MAX_VALUE - 1, Integer.MAX_VALUE};

    private final Tester tester = new Tester();
    // What was answered to run: how many results, NONE, and FAILED by error.
    private final int[] seen = new int[7];
    private long state = 88172645463325252L;
    private GrindField field;
    private Model model;
    private int calls;

    public static void main(String[] args) {
        ModelTest test = new ModelTest();
        for (int run = 0; run < RUNS; run++) {
            test.oneRun();
        }
        test.tellSeen();
        test.tester.end();
    }

    private int below(int bound) {
        state ^= state << 13;
        state ^= state >>> 7;
        state ^= state << 17;
        return (int) ((state >>> 8) % bound);
    }

    private int edge() {
        return EDGES[below(EDGES.length)];
    }

    private void same(String call, long got, long want) {
        calls++;
        tester.due(call, got, want);
    }

    private void oneRun() {
        int size = below(4) == 0 ? edge() : 1 + below(16);
        field = new GrindField(size, below(2) == 0 ? edge() : below(7), edge());
        model = new Model(size);
        calls = 0;
        int records = below(4) == 0 ? 120 : below(30);
        int keys = 1 + below(1 + below(40));
        while (calls < CALLS) {
            int kind = below(100);
            if (kind < 20) {
                load(below(4));
            } else if (kind < 25) {
                wipe();
            } else if (kind < 45) {
                records(records, keys);
            } else if (kind < 60) {
                odd();
            } else {
                run();
            }
        }
    }

    private void wipe() {
        same("wipe", field.wipe(), model.wipe());
    }

    private void records(int most, int keys) {
        for (int i = below(1 + most); i > 0 && calls < CALLS; i--) {
            int key = below(50) == 0 ? edge() : below(keys) - keys / 2;
            int value = below(30) == 0 ? edge() : below(25) - 2;
            same("record", field.record(key, value), model.record(key, value));
        }
    }

    private void odd() {
        int a = below(3) == 0 ? edge() : below(12);
        int b = below(3) == 0 ? edge() : below(20);
        same("code", field.code(a, b, a), model.code(a, b, a));
        same("clear", field.clear(b), model.clear(b));
        same("check", field.check(a), model.check(a));
        same("result", field.result(a, b), model.result(a, b));
        same("valueOf", field.valueOf(b), model.valueOf(b));
        same("count", field.count(a), model.count(a));
    }

    private void run() {
        for (int program = 0; program < 4; program++) {
            if (model.check(program) == 64 && program % 2 == 0) {
                load(program);
            }
        }
        int got = field.run(edge());
        same("run", got, model.run());
        int error = model.count(0);
        seen[got >= 0 ? 0 : got == -2 ? 1 : 2 + Math.min(4, error / 1000)]++;
        for (int what = 0; what < 10; what++) {
            same("count " + what, field.count(what), model.count(what));
        }
        for (int i = 0; i < 6; i++) {
            int k = i == 0 ? got : below(1 + Math.max(0, got));
            same("key " + k, field.result(k, 0), model.result(k, 0));
            same("value " + k, field.result(k, 1), model.result(k, 1));
            int key = below(3) == 0 ? below(40) - 20 : (int) model.result(k, 0);
            same("valueOf " + key, field.valueOf(key), model.valueOf(key));
        }
    }

    private void load(int program) {
        same("clear", field.clear(program), model.clear(program));
        if (program % 2 == 1 && below(4) == 0) {
            return;
        }
        List<int[]> code = program(program);
        for (int i = below(4) == 0 ? 1 + below(3) : 0; i > 0 && !code.isEmpty(); i--) {
            spoil(code.get(below(code.size())));
        }
        for (int[] one : code) {
            same("code", field.code(program, one[0], one[1]), model.code(program, one[0], one[1]));
        }
        same("check", field.check(program), model.check(program));
    }

    private void spoil(int[] one) {
        int i = below(3);
        if (i != 0) {
            one[0] = below(8) == 0 ? edge() : below(19);
        }
        if (i != 1) {
            one[1] = below(8) == 0 ? edge() : below(20);
        }
    }

    /** A program that is most often GOOD. */
    private List<int[]> program(int program) {
        List<int[]> code = new ArrayList<>();
        int height = stretch(code, program, 0, 2 + below(12));
        int loop = program == 0 ? below(3) : below(8);
        if (loop == 0) {
            loop(code, program, height);
        }
        if (program == 0) {
            height = emit(code, program, height);
        }
        if (program == 3 && below(3) == 0) {
            code.add(new int[] {1, below(2)});
            code.add(new int[] {15, code.size() + 2});
            code.add(new int[] {18, edge()});
        }
        height = stretch(code, program, height, below(8));
        if (height == 0 && program != 0) {
            code.add(new int[] {1, program == 3 ? 1 : 1 + below(2)});
        }
        code.add(new int[] {17, edge()});
        return code;
    }

    private int emit(List<int[]> code, int program, int height) {
        for (int i = 1 + below(2); i > 0; i--) {
            int at = stretch(code, program, height, below(4));
            while (at < height + 2 && at < 7) {
                code.add(new int[] {1, at % 2});
                at++;
            }
            while (at >= 2 && at > height) {
                code.add(new int[] {at - height > 1 ? 16 : 6, 0});
                at -= at - height > 1 ? 2 : 1;
            }
            height = at;
        }
        return height;
    }

    /** A loop over a local, from a number or an argument down to 0. */
    private void loop(List<int[]> code, int program, int height) {
        if (height > 5) {
            return;
        }
        int local = below(4);
        code.add(below(2) == 0 ? new int[] {0, below(26)} : new int[] {1, below(2)});
        code.add(new int[] {3, local});
        int start = code.size();
        code.add(new int[] {2, local});
        int[] leave = {15, 0};
        code.add(leave);
        if (program == 0) {
            code.add(new int[] {below(2) == 0 ? 1 : 2, below(2)});
            code.add(new int[] {2, local});
            code.add(new int[] {16, 0});
        }
        code.add(new int[] {2, local});
        code.add(new int[] {0, 1});
        code.add(new int[] {8, 0});
        code.add(new int[] {3, local});
        code.add(new int[] {14, start});
        leave[1] = code.size();
    }

    /** Instructions that know the height: what it is behind them. */
    private int stretch(List<int[]> code, int program, int height, int length) {
        for (int i = 0; i < length; i++) {
            int op = below(15);
            if (op == 14) {
                skip(code, program, height);
            } else if (op <= 2 && height < 8) {
                int arguments = program == 0 || program == 3 ? 2 : 3;
                int n = op == 0 ? number() : op == 1 ? below(arguments) : below(4);
                code.add(new int[] {op, n});
                height++;
            } else if (op == 4 && height > 0 && height < 8) {
                code.add(new int[] {op, edge()});
                height++;
            } else if (op == 5 && height > 1) {
                code.add(new int[] {op, edge()});
            } else if ((op == 3 || op == 6) && height > 0 || op >= 7 && height > 1) {
                code.add(new int[] {op, op == 3 ? below(4) : edge()});
                height--;
            }
        }
        return height;
    }

    private int number() {
        return below(3) == 0 ? edge() : below(9) - 3;
    }

    /** Instructions that keep the height, and are left out by 15 or by 14. */
    private void skip(List<int[]> code, int program, int height) {
        if (height > 6) {
            return;
        }
        boolean always = below(3) == 0;
        if (!always) {
            code.add(new int[] {1, below(2)});
        }
        int[] jump = {always ? 14 : 15, 0};
        code.add(jump);
        int at = stretch(code, program, height, 1 + below(4));
        while (at > height) {
            code.add(new int[] {6, 0});
            at--;
        }
        while (at < height) {
            code.add(new int[] {0, number()});
            at++;
        }
        jump[1] = code.size();
    }

    /** The runs must have seen enough of each way in which a job can go. */
    private void tellSeen() {
        String[] names = {"results", "NONE", "MAP", "JOIN", "FOLD", "END", "too many pairs"};
        for (int i = 0; i < seen.length; i++) {
            System.out.print(names[i] + " " + seen[i] + (i < 6 ? ", " : "\n"));
            tester.due("enough of " + names[i], Math.min(20, seen[i]), 20);
        }
    }
}
