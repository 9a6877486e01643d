import java.util.ArrayList;
import java.util.List;

/** What the headings 'Promise 1' to 'Promise 10' say, and the public face. */
final class PromiseBoundaries {
    private static final int MAP = Tester.MAP, JOIN = Tester.JOIN, FOLD = Tester.FOLD, END = Tester.END;
    private static final int LEAST = Tester.LEAST, GREATEST = Tester.GREATEST;
    private static final int[] OTHER_PROGRAMS = {LEAST, -1, 4, 5, GREATEST};
    private static final int[] WRONG = {99, 0};
    // END: the value and 100.
    private static final int[] AND_100 = {1, 1, 0, 100, 7, 0, 17, 0};

    // Texts of the program that are broken.
    private static final String SIZE = "this.size = Math.max(1, Math.min(MAX_SIZE, size));";
    private static final String WIPED = "records.length = 0;";
    private static final String CODED = "return isProgram(program) ? programs[program].append(op, n) : REFUSED;";
    private static final String CLEARED = "programs[program].length = 0;";
    private static final String CHECKED = "return isProgram(program) ? checker.firstWrong(programs[program]) : REFUSED;";
    private static final String OF_FOUR = "return program >= 0 && program < PROGRAMS;";
    private static final String GOOD_OR_EMPTY = "return wrong == NONE || wrong == ANSWER_NO_CODE;";
    private static final String RUNS = "if (!isGood(MAP) || !isGood(FOLD) || !isGoodOrEmpty(JOIN) || !isGoodOrEmpty(END)) {";
    private static final String THERE = "if (k < 0 || k >= job.results.length) {";
    private static final String TOLD = "return what == 1 ? job.results.values[k] : ANSWER_NO_VALUE;";
    private static final String KEY_TOLD = "if (what == 0) {\n            return job.results.keys[k];";
    private static final String VALUE_TOLD = "return job.results.holds(place, key) ? job.results.values[place] : ANSWER_NO_VALUE;";
    private static final String COUNTS = "if (what < COUNT_ERROR || what > COUNT_SPLITS) {";
    private static final String NOW = "if (what == COUNT_RECORDS) {";
    private static final String FORGOTTEN = "forget(error);";

    private PromiseBoundaries() {
    }

    static List<Boundary> all() {
        List<Boundary> all = new ArrayList<>();
        all.addAll(face());
        all.addAll(recordsAndPrograms());
        all.addAll(run());
        all.addAll(told());
        all.addAll(counted());
        return all;
    }

    private static List<Boundary> face() {
        return List.of(
            new Boundary("REFUSED = -1, NONE = -2, FULL = -3, FAILED = -4", "four answers apart",
                PromiseBoundaries::constants)
                .broken("REFUSED = -1", "REFUSED = -2")
                .broken("NONE = -2", "NONE = -1")
                .broken("FULL = -3", "FULL = -1")
                .broken("FAILED = -4", "FAILED = -2"),
            new Boundary("An object is used for at most 512 calls", "the 512th is answered, too",
                PromiseBoundaries::calls512)
                .broken("results.length = 0;", "")
                .broken("machine.forget();", ""),
            new Boundary("SIZE: 1 to 16", "1 and 16 stay", PromiseBoundaries::sizes)
                .broken("MAX_SIZE = 16", "MAX_SIZE = 15")
                .broken(SIZE, "this.size = Math.max(2, Math.min(MAX_SIZE, size));"),
            new Boundary("each clamped", "a SIZE below 1 is 1", PromiseBoundaries::smallSize)
                .broken(SIZE, "this.size = Math.min(MAX_SIZE, size);")
                .broken(SIZE, "this.size = size < 1 ? MAX_SIZE : Math.min(MAX_SIZE, size);")
                .broken(SIZE, "this.size = Math.min(MAX_SIZE, size == 0 ? 1 : Math.abs(size));"),
            new Boundary("each clamped", "a SIZE above 16 is 16", PromiseBoundaries::greatSize)
                .broken(SIZE, "this.size = Math.max(1, size);")
                .broken(SIZE, "this.size = size > MAX_SIZE ? 1 : Math.max(1, size);")
                .broken(SIZE, "this.size = Math.max(1, Math.min(MAX_SIZE + 1, size));"),
            new Boundary("workers: 1 to 6", "any number, and it makes no difference", PromiseBoundaries::workers)
                .broken(SIZE, "this.size = workers < 1 ? 1 : Math.max(1, Math.min(MAX_SIZE, size));")
                .broken(SIZE, "this.size = workers > 6 ? 1 : Math.max(1, Math.min(MAX_SIZE, size));")
                .broken(SIZE, "this.size = workers == 6 ? 1 : Math.max(1, Math.min(MAX_SIZE, size));"),
            new Boundary("parts: 1 to 8", "any number, and it makes no difference", PromiseBoundaries::parts)
                .broken(SIZE, "this.size = parts < 1 ? 1 : Math.max(1, Math.min(MAX_SIZE, size));")
                .broken(SIZE, "this.size = parts > 8 ? 1 : Math.max(1, Math.min(MAX_SIZE, size));")
                .broken(SIZE, "this.size = parts == 8 ? 1 : Math.max(1, Math.min(MAX_SIZE, size));"));
    }

    private static List<Boundary> recordsAndPrograms() {
        return List.of(
            new Boundary("A record comes: its number. FULL.", "one that is FULL changes nothing",
                PromiseBoundaries::fullRecord)
                .broken("if (length >= keys.length) {\n                return false;",
                    "if (length >= keys.length) {\n                values[length - 1] = value;\n                return false;")
                .broken(": FULL;\n    }\n\n    public int wipe", ": REFUSED;\n    }\n\n    public int wipe"),
            new Boundary("No records: how many there were", "none, one and 120", PromiseBoundaries::wiped)
                .broken(WIPED, "records.length = Math.max(0, records.length - 119);")
                .broken(WIPED, "")
                .broken("int before = records.length;", "int before = Math.min(119, records.length);"),
            new Boundary("(PROGRAMS, and what the latest run told, stay, here", "behind wipe",
                PromiseBoundaries::staysBehindWipe)
                .broken(WIPED, WIPED + " programs[0].length = 0;")
                .broken(WIPED, WIPED + " programs[3].length = 0;")
                .broken(WIPED, WIPED + " job.results.length = 0;")
                .broken(WIPED, WIPED + " job.counts[COUNT_PAIRS] = 0;"),
            new Boundary("(PROGRAMS, and what the latest run told, stay, here", "an ERROR behind wipe",
                PromiseBoundaries::errorStaysBehindWipe)
                .broken(WIPED, WIPED + " job.counts[COUNT_ERROR] = -1;"),
            new Boundary("and by code", "what was told stays behind code", PromiseBoundaries::staysBehindCode)
                .broken(CODED, "job.results.length = 0; " + CODED)
                .broken(CODED, "job.counts[COUNT_PAIRS] = 0; " + CODED)
                .broken(CODED, "records.length = 0; " + CODED),
            new Boundary("and clear.)", "what was told stays behind clear", PromiseBoundaries::staysBehindClear)
                .broken(CLEARED, CLEARED + " job.results.length = 0;")
                .broken(CLEARED, CLEARED + " job.counts[COUNT_PAIRS] = 0;")
                .broken(CLEARED, CLEARED + " records.length = 0;")
                .broken(CLEARED, CLEARED + " programs[0].length = 0;"),
            new Boundary("whatever OP and N are (check tells): its number", "the least, -1 and the greatest",
                PromiseBoundaries::anyOpAndN)
                .broken(CODED, "return isProgram(program) && op >= 0 ? programs[program].append(op, n) : REFUSED;")
                .broken(CODED, "return isProgram(program) && op <= 18 ? programs[program].append(op, n) : REFUSED;")
                .broken(CODED, "return isProgram(program) && n != " + LEAST + " ? programs[program].append(op, n) : REFUSED;"),
            new Boundary("REFUSED for another program; else FULL.", "-1 and 4 are REFUSED, also if all are full",
                PromiseBoundaries::otherCode)
                .broken(OF_FOUR, "return program >= -1 && program < PROGRAMS;")
                .broken(OF_FOUR, "return program >= 0 && program <= PROGRAMS;")
                .broken(CODED, "return isProgram(program) ? programs[program].append(op, n)"
                    + " : programs[0].length == MAX_CODE ? FULL : REFUSED;"),
            new Boundary("REFUSED for another program; else FULL.", "one that is FULL changes nothing",
                PromiseBoundaries::fullCode)
                .broken("if (length >= MAX_CODE) {", "if (length >= MAX_CODE) {\n ops[63] = op;\n")
                .broken("return FULL;\n            }\n            ops", "return REFUSED;\n            }\n            ops"),
            new Boundary("A program has no instructions: how many there were", "none, one and 64",
                PromiseBoundaries::cleared)
                .broken(CLEARED, "")
                .broken("int before = programs[program].length;", "int before = Math.min(63, programs[program].length);"),
            new Boundary("how many there were. REFUSED.", "-1 and 4, and all is left", PromiseBoundaries::otherClear)
                .broken(OF_FOUR, "return program >= -1 && program < PROGRAMS;")
                .broken(OF_FOUR, "return program >= 0 && program <= PROGRAMS;")
                .broken("if (!isProgram(program)) {", "if (!isProgram(program)) {\n programs[0].length = 0;\n"),
            new Boundary("The first WRONG instruction of a program", "of two the one that comes first in the row",
                PromiseBoundaries::firstWrong)
                .broken("for (int number = 0; number < program.length; number++) {",
                    "for (int number = program.length - 1; number >= 0; number--) {"),
            new Boundary("The first WRONG instruction of a program", "0 and 63", PromiseBoundaries::wrongAtEnds)
                .broken("for (int number = 0; number < program.length; number++) {",
                    "for (int number = 1; number < program.length; number++) {")
                .broken("for (int number = 0; number < program.length; number++) {",
                    "for (int number = 0; number < Math.min(63, program.length); number++) {"),
            new Boundary("NONE if it is GOOD", "one of 1 and one of 64 instructions", PromiseBoundaries::goodOnes)
                .broken("return number;\n                }\n            }\n            return NONE;",
                    "return number;\n                }\n            }\n            return program.length;"),
            new Boundary("64 if it has no instructions", "at first and behind clear", PromiseBoundaries::noneThere)
                .broken("ANSWER_NO_CODE = 64", "ANSWER_NO_CODE = 0")
                .broken("if (program.length == 0) {", "if (program.length < 0) {"),
            new Boundary("REFUSED for another one", "-1 and 4", PromiseBoundaries::otherCheck)
                .broken(OF_FOUR, "return program >= -1 && program < PROGRAMS;")
                .broken(OF_FOUR, "return program >= 0 && program <= PROGRAMS;")
                .broken(CHECKED, "return isProgram(program) ? checker.firstWrong(programs[program]) : NONE;"));
    }

    private static List<Boundary> run() {
        List<Boundary> all = new ArrayList<>(List.of(
            new Boundary("as trouble tells (which makes no difference to what is told)", "any number",
                PromiseBoundaries::trouble)
                .broken(RUNS, "if (trouble < 0 || !isGood(MAP) || !isGood(FOLD) || !isGoodOrEmpty(JOIN)) {")
                .broken("return job.perform(programs, records, size);",
                    "return job.perform(programs, records, trouble == " + GREATEST + " ? 1 : size);"),
            new Boundary("how many RESULTS, which are kept", "0, 1 and 120 keys", PromiseBoundaries::howMany)
                .broken("return results.length;", "return Math.min(119, results.length);")
                .broken("return results.length;", "return Math.max(1, results.length);"),
            new Boundary("how many RESULTS, which are kept", "with END those that are not left out",
                PromiseBoundaries::howManyBehindEnd)
                .broken("return results.length;", "return counts[COUNT_KEYS];"),
            new Boundary("NONE if MAP or FOLD is not GOOD", "MAP or FOLD without instructions",
                PromiseBoundaries::mapOrFoldEmpty)
                .broken(RUNS, "if (!isGoodOrEmpty(MAP) || !isGood(FOLD) || !isGoodOrEmpty(JOIN) || !isGoodOrEmpty(END)) {")
                .broken(RUNS, "if (!isGood(MAP) || !isGoodOrEmpty(FOLD) || !isGoodOrEmpty(JOIN) || !isGoodOrEmpty(END)) {"),
            new Boundary("NONE if MAP or FOLD is not GOOD", "MAP or FOLD with a WRONG one",
                PromiseBoundaries::mapOrFoldWrong)
                .broken(RUNS, "if (!isGood(FOLD) || !isGoodOrEmpty(JOIN) || !isGoodOrEmpty(END)) {")
                .broken(RUNS, "if (!isGood(MAP) || !isGoodOrEmpty(JOIN) || !isGoodOrEmpty(END)) {"),
            new Boundary("or JOIN or END has instructions and is not", "JOIN or END with a WRONG one",
                PromiseBoundaries::joinOrEndWrong)
                .broken(RUNS, "if (!isGood(MAP) || !isGood(FOLD) || !isGoodOrEmpty(END)) {")
                .broken(RUNS, "if (!isGood(MAP) || !isGood(FOLD) || !isGoodOrEmpty(JOIN)) {"),
            new Boundary("or JOIN or END has instructions and is not", "JOIN or END without instructions",
                PromiseBoundaries::joinOrEndEmpty)
                .broken(GOOD_OR_EMPTY, "return wrong == NONE;"),
            new Boundary("(results and counts of the one before stay)", "results behind NONE",
                PromiseBoundaries::staysBehindNone)
                .broken(RUNS, RUNS + " job.forget(NO_ERROR);")
                .broken(RUNS, RUNS + " job.results.length = 0;")
                .broken(RUNS, RUNS + " job.counts[COUNT_KEYS] = 0;"),
            new Boundary("(results and counts of the one before stay)", "an ERROR behind NONE",
                PromiseBoundaries::errorStaysBehindNone)
                .broken(RUNS, RUNS + " job.counts[COUNT_ERROR] = NO_ERROR;")));
        String[] names = {"MAP", "JOIN", "FOLD", "END"};
        for (int program : Tester.ALL) {
            all.add(new Boundary("FAILED if it FAILS (there are no results then, also those of before are gone)",
                "if a call of " + names[program] + " does", t -> goneBehindFailed(t, program))
                .broken(FORGOTTEN, "if (error != " + program * 1000 + ") { forget(error); }")
                .broken(FORGOTTEN, "int kept = results.length; forget(error);"
                    + " results.length = error == " + program * 1000 + " ? Math.max(1, kept) : 0;")
                .broken("return FAILED;", "return error == " + program * 1000 + " ? NONE : FAILED;"));
        }
        return all;
    }

    private static List<Boundary> told() {
        return List.of(
            new Boundary("what 0: its key, 1: its value", "with sign, as a long", PromiseBoundaries::keysAndValues)
                .broken(KEY_TOLD, "if (what == 0) {\n            return job.results.keys[k] & 0xFFFFFFFFL;")
                .broken(TOLD, "return what == 1 ? job.results.values[k] & 0xFFFFFFFFL : ANSWER_NO_VALUE;"),
            new Boundary("2^40 if there is none", "before the first, behind the last, before any run",
                PromiseBoundaries::noResult)
                .broken(THERE, "if (k < 0 || k > job.results.length) {")
                .broken(THERE, "if (k < 0 || k >= 600) {")
                .broken(THERE, "if (k >= job.results.length) {")
                .broken("ANSWER_NO_VALUE = 1L << 40", "ANSWER_NO_VALUE = 1L << 41")
                .broken("ANSWER_NO_VALUE = 1L << 40", "ANSWER_NO_VALUE = 1 << 40"),
            new Boundary("or for another what", "-1 and 2", PromiseBoundaries::otherWhat)
                .broken(TOLD, "return job.results.values[k];")
                .broken(TOLD, "return what <= 1 ? job.results.values[k] : ANSWER_NO_VALUE;")
                .broken(TOLD, "return what >= 1 ? job.results.values[k] : ANSWER_NO_VALUE;"),
            new Boundary("Of the latest run (that was not NONE), the k-th result", "behind one and behind NONE",
                PromiseBoundaries::resultOfTheLatest)
                .broken("results.length = 0;\n            Arrays", "Arrays")
                .broken(RUNS, RUNS + " job.results.length = 0;"),
            new Boundary("The value of a key", "with sign, of the least and the greatest key",
                PromiseBoundaries::valuesOfKeys)
                .broken(VALUE_TOLD, "return job.results.holds(place, key)"
                    + " ? job.results.values[place] & 0xFFFFFFFFL : ANSWER_NO_VALUE;")
                .broken(VALUE_TOLD, "return job.results.holds(place, key) && key != " + LEAST
                    + " ? job.results.values[place] : ANSWER_NO_VALUE;")
                .broken(VALUE_TOLD, "return job.results.holds(place, key) && key != " + GREATEST
                    + " ? job.results.values[place] : ANSWER_NO_VALUE;"),
            new Boundary("2^40 if it has none", "next to a key, left out, before any run, behind FAILED",
                PromiseBoundaries::noValue)
                .broken(VALUE_TOLD, "return place < job.results.length ? job.results.values[place] : ANSWER_NO_VALUE;")
                .broken("return place < length && keys[place] == key;", "return keys[place] == key;")
                .broken(VALUE_TOLD, "return job.results.holds(place, key) ? job.results.values[place] : NONE;"));
    }

    private static List<Boundary> counted() {
        return List.of(
            new Boundary("what 0: its ERROR, -1 without one", "of a run with one and without",
                PromiseBoundaries::errorOfTheLatest)
                .broken("NO_ERROR = -1", "NO_ERROR = -2")
                .broken("counts[COUNT_ERROR] = error;", ""),
            new Boundary("and if it has none (else 0)", "1 to 7 behind each ERROR", PromiseBoundaries::zeroWithError)
                .broken(FORGOTTEN, "results.length = 0; counts[COUNT_ERROR] = error;")
                .broken(FORGOTTEN, "int pairs = counts[1]; forget(error); counts[1] = pairs;")
                .broken(FORGOTTEN, "int steps = machine.steps[MAP]; forget(error); counts[4] = steps;"),
            new Boundary("without JOIN all PAIRS", "with JOIN fewer, without as many",
                PromiseBoundaries::valuesBehind2)
                .broken("counts[COUNT_VALUES] = values.length;", "counts[COUNT_VALUES] = machine.pairs.length;")
                .broken("counts[COUNT_VALUES] = values.length;", "counts[COUNT_VALUES] = joined.length;"),
            new Boundary("3: keys before END", "also those that END leaves out", PromiseBoundaries::keysBeforeEnd)
                .broken("results.length = kept;", "results.length = kept; counts[COUNT_KEYS] = kept;"),
            new Boundary("4: STEPS of all calls of MAP, 5: of JOIN, 6: of FOLD, 7: of END", "each apart",
                PromiseBoundaries::stepsApart)
                .broken("steps[program.kind] += step;", "steps[program.kind] = step;")
                .broken("steps[program.kind] += step;", "steps[program.kind / 2 * 2] += step;")
                .broken("counts, COUNT_STEPS, PROGRAMS);", "counts, COUNT_STEPS, PROGRAMS - 1);"),
            new Boundary("4: STEPS of all calls of MAP, 5: of JOIN, 6: of FOLD, 7: of END", "0 without a call",
                PromiseBoundaries::noSteps)
                .broken("Arrays.fill(steps, 0);", "")
                .broken("System.arraycopy(machine.steps, 0, counts,",
                    "machine.steps[JOIN] += programs[JOIN].length == 0 ? 1 : 0;\nSystem.arraycopy(machine.steps, 0, counts,"),
            new Boundary("8: records now, 9: splits now", "before a run, behind a record, behind wipe, with an ERROR",
                PromiseBoundaries::now)
                .broken(NOW, "if (what >= COUNT_RECORDS && job.counts[COUNT_ERROR] != NO_ERROR) {\n"
                    + "            return 0;\n        }\n        " + NOW)
                .broken(NOW, "if (what >= COUNT_RECORDS && job.counts[COUNT_PAIRS] == 0) {\n"
                    + "            return 0;\n        }\n        " + NOW)
                .broken(NOW, "if (what == COUNT_RECORDS && job.counts[COUNT_PAIRS] > 0) {\n"
                    + "            return job.counts[COUNT_PAIRS];\n        }\n        " + NOW),
            new Boundary("REFUSED for others", "-1 and 10", PromiseBoundaries::otherCounts)
                .broken(COUNTS, "if (what > COUNT_SPLITS) {")
                .broken(COUNTS, "if (what < COUNT_ERROR || what > COUNT_SPLITS + 1) {")
                .broken(COUNTS, "if (what <= COUNT_ERROR || what > COUNT_SPLITS) {")
                .broken(COUNTS, "if (what < COUNT_ERROR || what >= COUNT_SPLITS) {"),
            new Boundary("(-1 and 0 before the first.)", "on a new object, and behind NONE",
                PromiseBoundaries::beforeTheFirst)
                .broken("Job() {\n            counts[COUNT_ERROR] = NO_ERROR;", "Job() {")
                .broken(RUNS, RUNS + " job.counts[COUNT_ERROR] = 0;")
                .broken("final int[] counts = new int[COUNT_STEPS + PROGRAMS];",
                    "final int[] counts = {-1, 0, 0, 0, 0, 0, 0, -1};"),
            new Boundary("Of the latest run that was not NONE", "counts of the one before are gone",
                PromiseBoundaries::countsOfTheLatest)
                .broken("Arrays.fill(counts, 0);", "")
                .broken("joined.length = 0;", ""));
    }

    private static void constants(Tester t) {
        t.due("REFUSED", new GrindField(1, 1, 1).check(4), -1);
        t.due("NONE", new GrindField(1, 1, 1).run(0), -2);
        GrindField x = t.field(1, Tester.ENDLESS, Tester.SUM);
        t.due("NONE of check", x.check(MAP), -2);
        while (x.count(8) < 120) {
            x.record(1, 1);
        }
        t.due("FULL", x.record(1, 1), -3);
        t.due("FAILED", x.run(0), -4);
    }

    private static void calls512(Tester t) {
        // 32 calls to make it ready, then 480 runs of 600 pairs each.
        GrindField x = new GrindField(4, 6, 8);
        for (int i = 0; i < 13; i++) {
            x.code(MAP, Tester.MANY[2 * i], Tester.MANY[2 * i + 1]);
        }
        for (int i = 0; i < 4; i++) {
            x.code(JOIN, Tester.SUM[2 * i], Tester.SUM[2 * i + 1]);
            x.code(FOLD, Tester.SUM[2 * i], Tester.SUM[2 * i + 1]);
        }
        for (int i = 0; i < 11; i++) {
            x.record(i, 20);
        }
        for (int i = 0; i < 478; i++) {
            t.due("run " + i, x.run(i), 11);
        }
        t.due("call 511", x.valueOf(10), 210);
        t.due("call 512", x.count(5), 11 * 19 * 4);
    }

    /** How many splits there are of 120 records. */
    private static int splits(GrindField x) {
        for (int i = 0; i < 120; i++) {
            x.record(i, i);
        }
        return x.count(9);
    }

    private static void sizes(Tester t) {
        t.due("size 1", splits(new GrindField(1, 1, 1)), 120);
        t.due("size 2", splits(new GrindField(2, 1, 1)), 60);
        t.due("size 15", splits(new GrindField(15, 1, 1)), 8);
        GrindField x = new GrindField(16, 1, 1);
        t.records(x, new int[32]);
        t.due("16 of size 16", x.count(9), 1);
        x.record(0, 0);
        t.due("17 of size 16", x.count(9), 2);
    }

    private static void smallSize(Tester t) {
        int[] sizes = {LEAST, LEAST + 1, -16, -2, -1, 0};
        for (int size : sizes) {
            t.due("size " + size, splits(new GrindField(size, 1, 1)), 120);
        }
    }

    private static void greatSize(Tester t) {
        int[] sizes = {17, 18, 120, GREATEST};
        for (int size : sizes) {
            GrindField x = new GrindField(size, 1, 1);
            t.records(x, new int[32]);
            t.due("16 of size " + size, x.count(9), 1);
            x.record(0, 0);
            t.due("17 of size " + size, x.count(9), 2);
        }
    }

    /** What is told of a job with each program and several splits. */
    private static void sameForAll(Tester t, String name, GrindField x, int trouble) {
        t.load(x, MAP, Tester.SAME_PAIR);
        t.load(x, JOIN, Tester.ORDER);
        t.load(x, FOLD, Tester.ORDER);
        t.load(x, END, AND_100);
        t.records(x, 9, 1, 9, 2, -9, 3, 9, 4, 9, 5);
        t.due(name + ": run", x.run(trouble), 2);
        t.results(name, x, -9, 103, 9, ((31 + 2) * 31 + 4) * 31 + 5 + 100);
        t.counts(name, x, -1, 5, 4, 2, 20, 6, 12, 8, 5, 3);
    }

    private static void workers(Tester t) {
        int[] numbers = {LEAST, -1, 0, 1, 2, 3, 4, 5, 6, 7, 8, GREATEST};
        for (int number : numbers) {
            sameForAll(t, number + " workers", new GrindField(2, number, 4), 77);
        }
    }

    private static void parts(Tester t) {
        int[] numbers = {LEAST, -1, 0, 1, 2, 3, 4, 5, 6, 7, 8, 9, GREATEST};
        for (int number : numbers) {
            sameForAll(t, number + " parts", new GrindField(2, 3, number), 77);
        }
    }

    private static void fullRecord(Tester t) {
        GrindField x = t.field(16, Tester.SAME_PAIR, Tester.SUM);
        for (int i = 0; i < 120; i++) {
            x.record(1, 1);
        }
        t.due("one more", x.record(1, 1000), GrindField.FULL);
        t.due("one more", x.record(2, 1000), GrindField.FULL);
        t.runs("120", x, 1, 120);
        t.due("records", x.count(8), 120);
        t.due("splits", x.count(9), 8);
    }

    private static void wiped(Tester t) {
        GrindField x = t.field(16, Tester.SAME_PAIR, Tester.SUM);
        t.due("none", x.wipe(), 0);
        x.record(1, 1);
        t.due("one", x.wipe(), 1);
        t.due("none any more", x.wipe(), 0);
        for (int i = 0; i < 120; i++) {
            x.record(1, 1);
        }
        t.due("120", x.wipe(), 120);
        t.due("records", x.count(8), 0);
        t.runs("no records", x);
        t.due("a first one", x.record(1, 1), 0);
    }

    /** A job with each program, that is done. */
    private static GrindField told(Tester t) {
        GrindField x = t.field(2, Tester.SAME_PAIR, Tester.SUM);
        t.load(x, JOIN, Tester.SUM);
        t.load(x, END, AND_100);
        t.records(x, 4, 1, 4, 2, 4, 3, -4, 5);
        t.due("run", x.run(0), 2);
        return x;
    }

    private static void stays(Tester t, String name, GrindField x) {
        t.results(name, x, -4, 105, 4, 106);
        t.counts(name, x, -1, 4, 3, 2, 16, 4, 4, 8);
    }

    private static void staysBehindWipe(Tester t) {
        GrindField x = told(t);
        t.due("wipe", x.wipe(), 4);
        stays(t, "behind wipe", x);
        for (int program : Tester.ALL) {
            t.due("check", x.check(program), Tester.GOOD);
        }
        t.records(x, 4, 1, 4, 2, 4, 3, -4, 5);
        t.runs("the same programs", x, -4, 105, 4, 106);
    }

    private static void errorStaysBehindWipe(Tester t) {
        GrindField x = t.field(2, Tester.MANY, Tester.SUM);
        t.records(x, 1, 1, 1, 21);
        t.failed("MAP", x, 1);
        t.due("wipe", x.wipe(), 2);
        t.counts("behind wipe", x, 1, 0, 0, 0, 0, 0, 0, 0);
    }

    private static void staysBehindCode(Tester t) {
        for (int program : Tester.ALL) {
            GrindField x = told(t);
            t.due("code", x.code(program, 99, 0), 4);
            stays(t, "behind code", x);
            t.due("records", x.count(8), 4);
        }
    }

    private static void staysBehindClear(Tester t) {
        for (int program : Tester.ALL) {
            GrindField x = told(t);
            t.due("clear", x.clear(program), 4);
            stays(t, "behind clear", x);
            t.due("records", x.count(8), 4);
            for (int other : Tester.ALL) {
                t.due("check", x.check(other), other == program ? 64 : Tester.GOOD);
            }
        }
    }

    private static void anyOpAndN(Tester t) {
        int[] numbers = {LEAST, -1, 0, 18, 19, 64, GREATEST};
        for (int program : Tester.ALL) {
            GrindField x = new GrindField(1, 1, 1);
            int number = 0;
            for (int op : numbers) {
                for (int n : numbers) {
                    t.due("code of " + op + " " + n, x.code(program, op, n), number);
                    number++;
                }
            }
        }
    }

    private static void otherCode(Tester t) {
        GrindField x = new GrindField(1, 1, 1);
        for (int other : OTHER_PROGRAMS) {
            t.due("code of " + other, x.code(other, 17, 0), GrindField.REFUSED);
        }
        for (int program : Tester.ALL) {
            t.due("check", x.check(program), 64);
            for (int i = 0; i < 64; i++) {
                x.code(program, 17, 0);
            }
        }
        for (int other : OTHER_PROGRAMS) {
            t.due("code of " + other, x.code(other, 17, 0), GrindField.REFUSED);
        }
    }

    private static void fullCode(Tester t) {
        for (int program : Tester.ALL) {
            GrindField x = new GrindField(1, 1, 1);
            for (int i = 0; i < 64; i++) {
                x.code(program, 14, 63);
            }
            t.due("code 64", x.code(program, 99, 64), GrindField.FULL);
            t.due("check", x.check(program), Tester.GOOD);
            t.due("clear", x.clear(program), 64);
            t.due("a first one", x.code(program, 14, 0), 0);
        }
    }

    private static void cleared(Tester t) {
        for (int program : Tester.ALL) {
            GrindField x = new GrindField(1, 1, 1);
            t.due("none", x.clear(program), 0);
            x.code(program, 14, 0);
            t.due("one", x.clear(program), 1);
            t.due("none any more", x.clear(program), 0);
            for (int i = 0; i < 64; i++) {
                x.code(program, 14, 0);
            }
            t.due("64", x.clear(program), 64);
            t.due("check", x.check(program), 64);
            t.due("a first one", x.code(program, 14, 0), 0);
        }
    }

    private static void otherClear(Tester t) {
        GrindField x = told(t);
        for (int other : OTHER_PROGRAMS) {
            t.due("clear of " + other, x.clear(other), GrindField.REFUSED);
        }
        for (int program : Tester.ALL) {
            t.due("check", x.check(program), Tester.GOOD);
        }
    }

    private static void firstWrong(Tester t) {
        for (int program : Tester.ALL) {
            t.checked("1 and 3", 1, program, 0, 1, 99, 0, 0, 1, 99, 0);
            // The way leads to 3 before it leads to 1.
            t.checked("1 behind 3", 1, program, 14, 2, 6, 0, 0, 1, 15, 5, 14, 1, 99, 0);
        }
    }

    private static void wrongAtEnds(Tester t) {
        int[] code = new int[128];
        for (int i = 0; i < 63; i++) {
            code[2 * i] = 14;
            code[2 * i + 1] = i + 1;
        }
        code[126] = 99;
        for (int program : Tester.ALL) {
            t.checked("63 alone", 63, program, code);
            t.checked("0 alone", 0, program, 99, 0, 14, 1);
        }
    }

    private static void goodOnes(Tester t) {
        int[] code = new int[128];
        for (int i = 0; i < 64; i++) {
            code[2 * i] = 14;
            code[2 * i + 1] = 63;
        }
        for (int program : Tester.ALL) {
            t.checked("1 instruction", GrindField.NONE, program, 14, 0);
            t.checked("64 instructions", GrindField.NONE, program, code);
        }
    }

    private static void noneThere(Tester t) {
        GrindField x = new GrindField(1, 1, 1);
        for (int program : Tester.ALL) {
            t.due("check", x.check(program), 64);
            t.load(x, program, WRONG);
            t.due("check", x.check(program), 0);
            x.clear(program);
            t.due("check", x.check(program), 64);
        }
    }

    private static void otherCheck(Tester t) {
        GrindField x = told(t);
        for (int other : OTHER_PROGRAMS) {
            t.due("check of " + other, x.check(other), GrindField.REFUSED);
        }
    }

    private static void trouble(Tester t) {
        int[] numbers = {LEAST, -12345, -1, 0, 1, 2, 63, 64, 65535, 65536, GREATEST};
        for (int number : numbers) {
            sameForAll(t, "trouble " + number, new GrindField(2, 3, 4), number);
        }
    }

    private static void howMany(Tester t) {
        GrindField x = t.field(16, Tester.SAME_PAIR, Tester.SUM);
        t.due("no records", x.run(0), 0);
        x.record(1, 1);
        t.due("one", x.run(0), 1);
        x.record(1, 1);
        t.due("one key", x.run(0), 1);
        for (int i = 2; i < 120; i++) {
            x.record(i, i);
        }
        t.due("119 keys", x.run(0), 119);
        x.wipe();
        t.due("the first is kept", x.valueOf(1), 2);
        t.due("the last is kept", x.result(118, 1), 119);
        for (int i = 0; i < 120; i++) {
            x.record(i, i);
        }
        t.due("120 keys", x.run(0), 120);
        t.due("the last", x.result(119, 0), 119);
    }

    private static void howManyBehindEnd(Tester t) {
        GrindField x = t.field(1, Tester.SAME_PAIR, Tester.SUM);
        // A key of 0 is left out.
        t.load(x, END, 1, 0, 15, 4, 1, 1, 17, 0, 18, 0);
        t.records(x, 0, 1, 1, 2, 2, 3);
        t.due("two of three", x.run(0), 2);
        x.wipe();
        x.record(0, 1);
        t.due("none of one", x.run(0), 0);
    }

    /** A run that is NONE for what a program is, and not for what it was. */
    private static void noneWith(Tester t, int program, int... code) {
        GrindField x = told(t);
        t.load(x, program, code);
        t.due("run with another program " + program, x.run(0), GrindField.NONE);
        stays(t, "behind NONE", x);
        t.load(x, program, program == MAP ? Tester.SAME_PAIR : program == END ? AND_100 : Tester.SUM);
        t.runs("as before", x, -4, 105, 4, 106);
    }

    private static void mapOrFoldEmpty(Tester t) {
        noneWith(t, MAP);
        noneWith(t, FOLD);
    }

    private static void mapOrFoldWrong(Tester t) {
        noneWith(t, MAP, 17, 0, 99, 0);
        noneWith(t, FOLD, 1, 1, 17, 0, 99, 0);
    }

    private static void joinOrEndWrong(Tester t) {
        noneWith(t, JOIN, 1, 1, 17, 0, 99, 0);
        noneWith(t, END, 1, 1, 17, 0, 99, 0);
    }

    private static void joinOrEndEmpty(Tester t) {
        GrindField x = told(t);
        x.clear(JOIN);
        t.runs("no JOIN", x, -4, 105, 4, 106);
        x.clear(END);
        t.runs("neither", x, -4, 5, 4, 6);
        t.load(x, JOIN, Tester.SUM);
        t.runs("no END", x, -4, 5, 4, 6);
    }

    private static void staysBehindNone(Tester t) {
        for (int program : Tester.ALL) {
            GrindField x = told(t);
            t.load(x, program, WRONG);
            x.record(9, 9);
            t.due("run", x.run(0), GrindField.NONE);
            t.due("run again", x.run(0), GrindField.NONE);
            stays(t, "behind NONE", x);
        }
    }

    private static void errorStaysBehindNone(Tester t) {
        GrindField x = t.field(2, Tester.MANY, Tester.SUM);
        t.records(x, 1, 1, 1, 21);
        t.failed("MAP", x, 1);
        x.clear(FOLD);
        t.due("run", x.run(0), GrindField.NONE);
        t.counts("behind NONE", x, 1, 0, 0, 0, 0, 0, 0, 0);
        t.results("behind NONE", x);
    }

    private static void goneBehindFailed(Tester t, int program) {
        GrindField x = told(t);
        t.load(x, program, Tester.ENDLESS);
        t.due("run", x.run(0), GrindField.FAILED);
        t.due("error", x.count(0), program * 1000);
        t.results("none", x);
        for (int k = 0; k < 3; k++) {
            t.due("key " + k, x.result(k, 0), Tester.NO_VALUE);
            t.due("value " + k, x.result(k, 1), Tester.NO_VALUE);
        }
        t.due("a key of before", x.valueOf(4), Tester.NO_VALUE);
        t.due("a key of before", x.valueOf(-4), Tester.NO_VALUE);
    }

    private static void keysAndValues(Tester t) {
        GrindField x = t.field(1, Tester.SAME_PAIR, Tester.SUM);
        t.records(x, GREATEST, LEAST, -1, -1, LEAST, GREATEST);
        t.due("run", x.run(0), 3);
        t.due("key 0", x.result(0, 0), LEAST);
        t.due("value 0", x.result(0, 1), GREATEST);
        t.due("key 1", x.result(1, 0), -1);
        t.due("value 1", x.result(1, 1), -1);
        t.due("key 2", x.result(2, 0), GREATEST);
        t.due("value 2", x.result(2, 1), LEAST);
    }

    private static void noResult(Tester t) {
        GrindField x = t.field(1, Tester.SAME_PAIR, Tester.SUM);
        int[] all = {LEAST, -2, -1, 0, 1, 2, 599, 600, 601, GREATEST};
        for (int k : all) {
            t.due("before a run: key " + k, x.result(k, 0), Tester.NO_VALUE);
            t.due("before a run: value " + k, x.result(k, 1), Tester.NO_VALUE);
        }
        t.records(x, 5, 6, 7, 8);
        t.due("run", x.run(0), 2);
        for (int k : all) {
            boolean there = k == 0 || k == 1;
            t.due("key " + k, x.result(k, 0), there ? 5 + 2 * k : Tester.NO_VALUE);
            t.due("value " + k, x.result(k, 1), there ? 6 + 2 * k : Tester.NO_VALUE);
        }
    }

    private static void otherWhat(Tester t) {
        GrindField x = told(t);
        int[] others = {LEAST, -2, -1, 2, 3, GREATEST};
        for (int other : others) {
            for (int k = -1; k < 3; k++) {
                t.due("what " + other, x.result(k, other), Tester.NO_VALUE);
            }
        }
    }

    private static void resultOfTheLatest(Tester t) {
        GrindField x = told(t);
        x.wipe();
        t.records(x, 7, 1);
        t.runs("another one", x, 7, 101);
        t.due("result 1", x.result(1, 0), Tester.NO_VALUE);
        t.load(x, MAP, WRONG);
        t.due("run", x.run(0), GrindField.NONE);
        t.results("behind NONE", x, 7, 101);
    }

    private static void valuesOfKeys(Tester t) {
        GrindField x = t.field(1, Tester.SAME_PAIR, Tester.SUM);
        t.records(x, GREATEST, LEAST, -1, -1, LEAST, GREATEST, 0, 0);
        t.due("run", x.run(0), 4);
        t.due("of the least", x.valueOf(LEAST), GREATEST);
        t.due("of -1", x.valueOf(-1), -1);
        t.due("of 0", x.valueOf(0), 0);
        t.due("of the greatest", x.valueOf(GREATEST), LEAST);
    }

    private static void noValue(Tester t) {
        GrindField x = t.field(1, Tester.SAME_PAIR, Tester.SUM);
        int[] all = {LEAST, LEAST + 1, -6, -5, -4, -1, 0, 1, 4, 5, 6, GREATEST - 1, GREATEST};
        for (int key : all) {
            t.due("before a run: " + key, x.valueOf(key), Tester.NO_VALUE);
        }
        t.records(x, -5, 50, 5, 51);
        for (int key : all) {
            t.due("a record alone: " + key, x.valueOf(key), Tester.NO_VALUE);
        }
        t.due("run", x.run(0), 2);
        for (int key : all) {
            long want = key == -5 ? 50 : key == 5 ? 51 : Tester.NO_VALUE;
            t.due("valueOf(" + key + ")", x.valueOf(key), want);
        }
        t.load(x, END, 18, 0);
        t.runs("left out", x);
        t.due("left out", x.valueOf(5), Tester.NO_VALUE);
        t.load(x, END, Tester.ENDLESS);
        t.due("run", x.run(0), GrindField.FAILED);
        t.due("failed", x.valueOf(5), Tester.NO_VALUE);
    }

    private static void errorOfTheLatest(Tester t) {
        GrindField x = t.field(1, Tester.MANY, Tester.SUM);
        x.record(1, 1);
        t.runs("no error", x, 1, 1);
        t.due("count(0)", x.count(0), -1);
        x.record(1, 21);
        t.failed("an error", x, 1);
        x.wipe();
        t.runs("none any more", x);
        t.due("count(0)", x.count(0), -1);
    }

    private static void zeroWithError(Tester t) {
        for (int program : Tester.ALL) {
            GrindField x = told(t);
            // The first record and the first split are done before one fails.
            t.records(x, 8, 9, 8, 9);
            int arguments = program == MAP || program == END ? 2 : 3;
            t.load(x, program, 1, 0, 0, 8, 8, 0, 15, 7, 1, arguments - 1, 17, 0, 6, 0, 14, 7);
            if (program == MAP) {
                t.load(x, program, 1, 0, 1, 1, 16, 0, 1, 0, 0, 8, 8, 0, 15, 8, 17, 0, 14, 8);
            }
            t.load(x, program == FOLD ? JOIN : END, program == END ? new int[] {1, 0, 0, 8, 8, 0, 15, 6,
                1, 1, 17, 0, 14, 6} : new int[0]);
            int[] errors = {4, 1002, 2000, 3000};
            t.failed("program " + program, x, errors[program]);
        }
        GrindField x = t.field(1, Tester.MANY, Tester.SUM);
        for (int i = 0; i < 31; i++) {
            x.record(1, 20);
        }
        t.failed("too many pairs", x, 4000);
    }

    private static void valuesBehind2(Tester t) {
        GrindField x = told(t);
        t.counts("with JOIN", x, -1, 4, 3);
        t.load(x, JOIN);
        t.due("run", x.run(0), 2);
        t.counts("without", x, -1, 4, 4);
        t.load(x, JOIN, Tester.FIRST);
        t.due("run", x.run(0), 2);
        t.counts("with another", x, -1, 4, 3);
    }

    private static void keysBeforeEnd(Tester t) {
        GrindField x = told(t);
        t.due("with END", x.count(3), 2);
        t.load(x, END, 18, 0);
        t.due("run", x.run(0), 0);
        t.due("all left out", x.count(3), 2);
        t.load(x, END);
        t.due("run", x.run(0), 2);
        t.due("without END", x.count(3), 2);
    }

    private static void stepsApart(Tester t) {
        GrindField x = new GrindField(3, 1, 1);
        // 5, 4, 3 and 2 steps a call: of 6 records, 2 keys.
        t.load(x, MAP, 14, 1, 1, 0, 1, 1, 16, 0, 17, 0);
        t.load(x, JOIN, 1, 1, 1, 2, 7, 0, 17, 0);
        t.load(x, FOLD, 1, 1, 1, 2, 17, 0);
        t.load(x, END, 1, 1, 17, 0);
        t.records(x, 1, 1, 1, 2, 1, 3, 1, 4, 2, 5, 2, 6);
        t.due("run", x.run(0), 2);
        t.counts("steps", x, -1, 6, 3, 2, 6 * 5, 3 * 4, 3, 2 * 2);
    }

    private static void noSteps(Tester t) {
        GrindField x = told(t);
        x.wipe();
        t.records(x, 1, 1);
        t.due("run", x.run(0), 1);
        t.counts("one alone", x, -1, 1, 1, 1, 4, 0, 0, 4);
        x.clear(JOIN);
        x.clear(END);
        t.due("run", x.run(0), 1);
        t.counts("no JOIN, no END", x, -1, 1, 1, 1, 4, 0, 0, 0);
        x.wipe();
        t.due("run", x.run(0), 0);
        t.counts("no records", x, -1, 0, 0, 0, 0, 0, 0, 0);
    }

    private static void nowAre(Tester t, String name, GrindField x, int records, int splits) {
        t.due(name + ": records", x.count(8), records);
        t.due(name + ": splits", x.count(9), splits);
    }

    private static void now(Tester t) {
        GrindField x = t.field(2, Tester.MANY, Tester.SUM);
        nowAre(t, "new", x, 0, 0);
        t.records(x, 1, 3, 1, 4, 1, 5);
        nowAre(t, "before a run", x, 3, 2);
        t.due("run", x.run(0), 1);
        nowAre(t, "behind a run", x, 3, 2);
        t.records(x, 1, 21, 1, 21);
        nowAre(t, "behind records", x, 5, 3);
        t.due("run", x.run(0), GrindField.FAILED);
        nowAre(t, "with an ERROR", x, 5, 3);
        x.wipe();
        nowAre(t, "behind wipe", x, 0, 0);
    }

    private static void otherCounts(Tester t) {
        GrindField x = told(t);
        int[] others = {LEAST, -2, -1, 10, 11, GREATEST};
        for (int other : others) {
            t.due("count(" + other + ")", x.count(other), GrindField.REFUSED);
        }
        t.records(x, 6, 6);
        t.counts("0 to 9", x, -1, 4, 3, 2, 16, 4, 4, 8, 5, 3);
        // REFUSED is what count(0) answers without an ERROR, too.
        t.load(x, END, Tester.ENDLESS);
        t.due("run", x.run(0), GrindField.FAILED);
        t.counts("0 to 9 with an ERROR", x, 3000, 0, 0, 0, 0, 0, 0, 0, 5, 3);
        for (int other : others) {
            t.due("count(" + other + ") with an ERROR", x.count(other), GrindField.REFUSED);
        }
    }

    private static void beforeTheFirst(Tester t) {
        GrindField x = new GrindField(2, 1, 1);
        t.counts("new", x, -1, 0, 0, 0, 0, 0, 0, 0);
        t.due("run", x.run(0), GrindField.NONE);
        t.counts("behind NONE", x, -1, 0, 0, 0, 0, 0, 0, 0);
    }

    private static void countsOfTheLatest(Tester t) {
        GrindField x = told(t);
        stays(t, "the first", x);
        t.due("run", x.run(0), 2);
        stays(t, "the second", x);
        x.wipe();
        t.records(x, 4, 7);
        t.due("run", x.run(0), 1);
        t.counts("the third", x, -1, 1, 1, 1, 4, 0, 0, 4);
    }
}
