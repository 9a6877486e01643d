import java.util.ArrayDeque;
import java.util.ArrayList;
import java.util.Deque;
import java.util.LinkedHashMap;
import java.util.List;
import java.util.Map;
import java.util.TreeMap;
import java.util.TreeSet;

/** The document told once more, with the Java library and without any care for room. */
final class Model {
    static final long NO_VALUE = 1L << 40;

    private static final String MAP_OR_END_ARGUMENTS = "01";
    private static final String JOIN_OR_FOLD_ARGUMENTS = "012";

    /** A call or the job fails, with the error that it has then. */
    private static final class Failure extends RuntimeException {
        private static final long serialVersionUID = 1L;
        final int error;

        Failure(int error) {
            this.error = error;
        }
    }

    /** What a call gives: pairs, or a result, or none. */
    private static final class Outcome {
        final List<int[]> pairs = new ArrayList<>();
        Integer result = null;
    }

    private final int size;
    private final List<int[]> records = new ArrayList<>();
    private final List<List<int[]>> programs = new ArrayList<>();
    private TreeMap<Integer, Integer> results = new TreeMap<>();
    private int error = -1;
    private int[] counts = new int[8];

    Model(int size) {
        this.size = size < 1 ? 1 : size > 16 ? 16 : size;
        for (int i = 0; i < 4; i++) {
            programs.add(new ArrayList<>());
        }
    }

    int record(int key, int value) {
        if (records.size() == 120) {
            return -3;
        }
        records.add(new int[] {key, value});
        return records.size() - 1;
    }

    int wipe() {
        int before = records.size();
        records.clear();
        return before;
    }

    int code(int program, int op, int n) {
        if (program < 0 || program > 3) {
            return -1;
        }
        if (programs.get(program).size() == 64) {
            return -3;
        }
        programs.get(program).add(new int[] {op, n});
        return programs.get(program).size() - 1;
    }

    int clear(int program) {
        if (program < 0 || program > 3) {
            return -1;
        }
        int before = programs.get(program).size();
        programs.get(program).clear();
        return before;
    }

    int check(int program) {
        if (program < 0 || program > 3) {
            return -1;
        }
        if (programs.get(program).isEmpty()) {
            return 64;
        }
        TreeSet<Integer> wrong = wrongOnes(program);
        return wrong.isEmpty() ? -2 : wrong.first();
    }

    private static int needs(int program, int op) {
        if (op >= 7 && op <= 13 || op == 5 || op == 16) {
            return 2;
        }
        if (op == 17) {
            return program == 0 ? 0 : 1;
        }
        return op == 3 || op == 4 || op == 6 || op == 15 ? 1 : 0;
    }

    private static int behind(int op, int height) {
        if (op <= 2 || op == 4) {
            return height + 1;
        }
        if (op == 16) {
            return height - 2;
        }
        return op == 3 || op == 6 || op == 15 || op >= 7 && op <= 13 ? height - 1 : height;
    }

    private boolean wrongAsItStands(int program, int op, int n) {
        if (op < 0 || op > 18 || op == 16 && program != 0 || op == 18 && program != 3) {
            return true;
        }
        boolean two = program == 0 || program == 3;
        String arguments = two ? MAP_OR_END_ARGUMENTS : JOIN_OR_FOLD_ARGUMENTS;
        if (op == 1) {
            return !List.of(arguments.split("")).contains(Integer.toString(n));
        }
        if (op == 2 || op == 3) {
            return n < 0 || n > 3;
        }
        return (op == 14 || op == 15) && (n < 0 || n >= programs.get(program).size());
    }

    private TreeSet<Integer> wrongOnes(int program) {
        List<int[]> code = programs.get(program);
        TreeSet<Integer> wrong = new TreeSet<>();
        for (int i = 0; i < code.size(); i++) {
            if (wrongAsItStands(program, code.get(i)[0], code.get(i)[1])) {
                wrong.add(i);
            }
        }
        TreeSet<Integer> standing = new TreeSet<>(wrong);
        Map<Integer, TreeSet<Integer>> heights = new LinkedHashMap<>();
        Deque<int[]> ways = new ArrayDeque<>();
        ways.push(new int[] {0, 0});
        while (!ways.isEmpty()) {
            int[] way = ways.pop();
            int i = way[0];
            int height = way[1];
            if (!heights.computeIfAbsent(i, k -> new TreeSet<>()).add(height)) {
                continue;
            }
            if (heights.get(i).size() > 1) {
                wrong.add(i);
            }
            if (standing.contains(i)) {
                continue;
            }
            int op = code.get(i)[0];
            boolean last = i == code.size() - 1 && op != 14 && op != 17 && op != 18;
            if (last || height < needs(program, op) || behind(op, height) > 8) {
                wrong.add(i);
                continue;
            }
            if (op == 14 || op == 15) {
                ways.push(new int[] {code.get(i)[1], behind(op, height)});
            }
            if (op != 14 && op != 17 && op != 18) {
                ways.push(new int[] {i + 1, behind(op, height)});
            }
        }
        return wrong;
    }

    int run() {
        boolean join = !programs.get(1).isEmpty();
        boolean end = !programs.get(3).isEmpty();
        if (check(0) != -2 || check(2) != -2 || join && check(1) != -2 || end && check(3) != -2) {
            return -2;
        }
        results = new TreeMap<>();
        counts = new int[8];
        error = -1;
        try {
            results = job(join, end);
        } catch (Failure failure) {
            error = failure.error;
            counts = new int[8];
            return -4;
        }
        return results.size();
    }

    private TreeMap<Integer, Integer> job(boolean join, boolean end) {
        List<List<int[]>> splits = new ArrayList<>();
        for (int i = 0; i < records.size(); i++) {
            if (i % size == 0) {
                splits.add(new ArrayList<>());
            }
            splits.get(i / size).addAll(call(0, i, records.get(i)).pairs);
        }
        counts[1] = splits.stream().mapToInt(List::size).sum();
        if (counts[1] > 600) {
            throw new Failure(4000);
        }
        TreeMap<Integer, List<Integer>> values = new TreeMap<>();
        for (int s = 0; s < splits.size(); s++) {
            for (Map.Entry<Integer, List<Integer>> e : byKeys(splits.get(s)).entrySet()) {
                List<Integer> some = e.getValue();
                if (join) {
                    some = List.of(oneOf(1, 1000 + s, e.getKey(), some));
                }
                values.computeIfAbsent(e.getKey(), k -> new ArrayList<>()).addAll(some);
            }
        }
        counts[2] = values.values().stream().mapToInt(List::size).sum();
        counts[3] = values.size();
        TreeMap<Integer, Integer> folded = new TreeMap<>();
        values.forEach((key, some) -> folded.put(key, oneOf(2, 2000, key, some)));
        if (!end) {
            return folded;
        }
        TreeMap<Integer, Integer> ended = new TreeMap<>();
        folded.forEach((key, value) -> {
            Integer result = call(3, 3000, key, value).result;
            if (result != null) {
                ended.put(key, result);
            }
        });
        return ended;
    }

    private static TreeMap<Integer, List<Integer>> byKeys(List<int[]> pairs) {
        TreeMap<Integer, List<Integer>> values = new TreeMap<>();
        for (int[] pair : pairs) {
            values.computeIfAbsent(pair[0], k -> new ArrayList<>()).add(pair[1]);
        }
        return values;
    }

    private int oneOf(int program, int errorThen, int key, List<Integer> values) {
        int there = values.get(0);
        for (int next : values.subList(1, values.size())) {
            there = call(program, errorThen, key, there, next).result;
        }
        return there;
    }

    private Outcome call(int program, int errorThen, int... arguments) {
        Outcome outcome = new Outcome();
        ArrayDeque<Integer> stack = new ArrayDeque<>();
        int[] locals = new int[4];
        int at = 0;
        for (int steps = 0; ; steps++) {
            if (steps == 300 || outcome.pairs.size() > 20) {
                throw new Failure(errorThen);
            }
            counts[4 + program]++;
            int op = programs.get(program).get(at)[0];
            int n = programs.get(program).get(at)[1];
            at++;
            if (op == 0) {
                stack.push(n);
            } else if (op == 1) {
                stack.push(arguments[n]);
            } else if (op == 2) {
                stack.push(locals[n]);
            } else if (op == 3) {
                locals[n] = stack.pop();
            } else if (op == 4) {
                stack.push(stack.peek());
            } else if (op == 6) {
                stack.pop();
            } else if (op == 14 || op == 15 && stack.pop() == 0) {
                at = n;
            } else if (op == 17) {
                outcome.result = stack.peek();
                return outcome;
            } else if (op == 18) {
                return outcome;
            } else if (op != 15) {
                two(op, stack.pop(), stack.pop(), stack, outcome);
            }
        }
    }

    private static void two(int op, int upper, int lower, ArrayDeque<Integer> stack, Outcome outcome) {
        if (op == 5) {
            stack.push(upper);
            stack.push(lower);
        } else if (op == 16) {
            outcome.pairs.add(new int[] {lower, upper});
        } else {
            // In long, cut to an int at the end: that is to wrap.
            long a = lower;
            long b = upper;
            long[] all = {a + b, a - b, a * b, b == 0 ? 0 : a / b, b == 0 ? 0 : a % b,
                a < b ? 1 : 0, a == b ? 1 : 0};
            stack.push((int) all[op - 7]);
        }
    }

    long result(int k, int what) {
        if (k < 0 || k >= results.size() || what < 0 || what > 1) {
            return NO_VALUE;
        }
        int key = new ArrayList<>(results.keySet()).get(k);
        return what == 0 ? key : results.get(key);
    }

    long valueOf(int key) {
        return results.containsKey(key) ? results.get(key) : NO_VALUE;
    }

    int count(int what) {
        if (what < 0 || what > 9) {
            return -1;
        }
        if (what == 0) {
            return error;
        }
        if (what == 8) {
            return records.size();
        }
        if (what == 9) {
            return records.size() / size + (records.size() % size == 0 ? 0 : 1);
        }
        return counts[what];
    }
}
