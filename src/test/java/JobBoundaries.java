import java.util.ArrayList;
import java.util.List;

/** What 'Terms' says of A JOB: its order, its ERRORS, its many PAIRS and its RESULTS. */
final class JobBoundaries {
    private static final int MAP = Tester.MAP, JOIN = Tester.JOIN, FOLD = Tester.FOLD, END = Tester.END;
    private static final int LEAST = Tester.LEAST, GREATEST = Tester.GREATEST;
    // END: a key of 0 is left out, another one gets its value and 100.
    private static final int[] NOT_ZERO = {1, 0, 15, 6, 1, 1, 0, 100, 7, 0, 17, 0, 18, 0};
    // JOIN or FOLD: no end with a next value of 9, else the sum.
    private static final int[] NO_NINE = {1, 2, 0, 9, 8, 0, 15, 8, 1, 1, 1, 2, 7, 0, 17, 0, 14, 8};

    // Texts of the program that are broken.
    private static final String RUNS = "if (!isGood(MAP) || !isGood(FOLD) || !isGoodOrEmpty(JOIN) || !isGoodOrEmpty(END)) {";
    private static final String RECORDS = "for (int i = 0; i < records.length; i++) {";
    private static final String ALONE = "table.insert(place, key, row.values[i]);\n                    continue;";
    private static final String MERGED = "machine.call(program, key, table.values[place], row.values[i])";
    private static final String SMALLER = "keys[place + stride - 1] < key";
    private static final String MAP_FAILED = "return i;";
    private static final String TOO_MANY = "return counts[COUNT_PAIRS] > MAX_PAIRS ? ERROR_PAIRS : NO_ERROR;";
    private static final String COUNTED = "counts[COUNT_PAIRS] += machine.emitted;";
    private static final String JOINS = "if (error == NO_ERROR && programs[JOIN].length > 0) {";
    private static final String FOLDS = "if (error == NO_ERROR) {\n                error = foldValues";
    private static final String ENDS = "if (error == NO_ERROR && programs[END].length > 0) {";

    private JobBoundaries() {
    }

    static List<Boundary> all() {
        List<Boundary> all = new ArrayList<>(order());
        all.addAll(errors());
        return all;
    }

    private static List<Boundary> order() {
        return List.of(
            new Boundary("with GOOD programs MAP, FOLD, and JOIN and END or none of these",
                "with both, with one of them and with none", JobBoundaries::bothOrNone)
                .broken(RUNS, "if (!isGood(MAP) || !isGood(FOLD) || !isGood(JOIN) || !isGoodOrEmpty(END)) {")
                .broken(RUNS, "if (!isGood(MAP) || !isGood(FOLD) || !isGoodOrEmpty(JOIN) || !isGood(END)) {")
                .broken(JOINS, "if (error == NO_ERROR && programs[JOIN].length > 0 && programs[END].length > 0) {")
                .broken(ENDS, "if (error == NO_ERROR && programs[END].length > 0 && programs[JOIN].length > 0) {"),
            new Boundary("1. MAP on each record", "on the first and on the last, also of 120",
                JobBoundaries::eachRecord)
                .broken(RECORDS, "for (int i = 1; i < records.length; i++) {")
                .broken(RECORDS, "for (int i = 0; i < records.length - 1; i++) {")
                .broken(RECORDS, "for (int i = 0; i < Math.min(119, records.length); i++) {"),
            new Boundary("PAIRS, in their order", "those of one record, and those of the next behind them",
                JobBoundaries::pairsInOrder)
                .broken(RECORDS, "for (int k = 0; k < records.length; k++) { int i = records.length - 1 - k;"),
            new Boundary("1. MAP on each record: PAIRS", "a record may have none", JobBoundaries::recordWithout)
                .broken("splitEnds[i / size] = machine.pairs.length;",
                    "if (machine.emitted > 0) { splitEnds[i / size] = machine.pairs.length; }"),
            new Boundary("2. In each split, by keys", "not over two splits, not over two keys",
                JobBoundaries::inEachSplit)
                .broken("splitTable.length = 0;", "")
                .broken("return place < length && keys[place] == key;", "return place < length;"),
            new Boundary("the first, then JOIN (key, what is there, the next), in their order",
                "two and three values", JobBoundaries::joinsInOrder)
                .broken("start, splitEnds[split])) {", "start, splitEnds[split] - 1)) {")
                .broken(MERGED, "machine.call(program, key, row.values[i], table.values[place])"),
            new Boundary("(no call for one alone)", "of JOIN", JobBoundaries::oneAloneOfJoin)
                .broken(ALONE, "table.insert(place, key, 0);")
                .broken(ALONE, "table.insert(place, key, row.values[i]);"),
            new Boundary("without JOIN all stay", "also those of one key and one split",
                JobBoundaries::allStay)
                .broken(JOINS, "if (error == NO_ERROR) {")
                .broken("counts[COUNT_VALUES] = values.length;", "counts[COUNT_VALUES] = Math.min(5, values.length);"),
            new Boundary("3. By keys, over all splits in their order: the first value, then FOLD",
                "no call for the first value", JobBoundaries::firstOfFold)
                .broken(ALONE, "table.insert(place, key, 0);")
                .broken(ALONE, "table.insert(place, key, row.values[i]);"),
            new Boundary("then FOLD (key, what is there, the next) in their order",
                "the last value of the last split is the last", JobBoundaries::foldsInOrder)
                .broken("values, 0, values.length)) {", "values, 0, values.length - 1)) {")
                .broken(MERGED, "machine.call(program, key, row.values[i], table.values[place])"),
            new Boundary("4. With an END, END (key, what is there): its result, or the key is left out",
                "the first, the last, all, none left out", JobBoundaries::leftOut)
                .broken("results.keys[kept] = results.keys[i];", "")
                .broken("results.values[kept] = machine.answer;", "results.values[i] = machine.answer;")
                .broken("if (ending == Machine.CALL_FINISHED) {", "if (ending != Machine.CALL_FAILED) {")
                .broken("results.length = kept;", ""),
            new Boundary("4. With an END", "without END all keys stay as they are", JobBoundaries::withoutEnd)
                .broken(ENDS, "if (error == NO_ERROR) {"),
            new Boundary("keys with their values, by rising keys (with sign)",
                "the least is the first, -1 before 0, the greatest the last", JobBoundaries::withSign)
                .broken(SMALLER, "Integer.compareUnsigned(keys[place + stride - 1], key) < 0")
                .broken(SMALLER, "keys[place + stride - 1] - key < 0")
                .broken(SMALLER, "keys[place + stride - 1] > key"),
            new Boundary("keys with their values, by rising keys (with sign)", "600 keys",
                JobBoundaries::keys600)
                .broken("WIDEST_STRIDE = 512", "WIDEST_STRIDE = 256")
                .broken("final int[] values = new int[MAX_PAIRS];", "final int[] values = new int[MAX_PAIRS - 1];")
                .broken("if (place > length || length >= MAX_PAIRS) {",
                    "if (place > length || length >= MAX_PAIRS - 1) {"));
    }

    private static List<Boundary> errors() {
        return List.of(
            new Boundary("the number of the record if a MAP failed", "0 and 119", JobBoundaries::recordFailed)
                .broken(MAP_FAILED, "return i + 1;")
                .broken(MAP_FAILED, "return Math.min(i, 118);"),
            new Boundary("if a MAP failed, the least of these", "of two, and of all", JobBoundaries::leastRecord)
                .broken(RECORDS, "for (int k = 0; k < records.length; k++) { int i = records.length - 1 - k;"),
            new Boundary("else 1000 and the number of the split if a JOIN did", "1000 and 1119",
                JobBoundaries::splitFailed)
                .broken("return ERROR_JOIN + split;", "return ERROR_JOIN + split + 1;")
                .broken("return ERROR_JOIN + split;", "return ERROR_JOIN + Math.min(split, 118);")
                .broken("ERROR_JOIN = 1000", "ERROR_JOIN = 999"),
            new Boundary("if a JOIN did, the least", "of two, and of all", JobBoundaries::leastSplit)
                .broken("for (int split = 0; split < splits; split++) {",
                    "for (int split = splits - 1; split >= 0; split--) {"
                    + " start = split == 0 ? 0 : splitEnds[split - 1];"),
            new Boundary("else 2000 if a FOLD", "the first and the last call", JobBoundaries::foldFailed)
                .broken("ERROR_FOLD = 2000", "ERROR_FOLD = 2001")
                .broken("return ERROR_FOLD;", "return results.length > 1 ? ERROR_FOLD + 1 : ERROR_FOLD;"),
            new Boundary("else 3000 if an END", "the first and the last call", JobBoundaries::endFailed)
                .broken("ERROR_END = 3000", "ERROR_END = 3001")
                .broken("return ERROR_END;", "return ERROR_END + i;"),
            new Boundary("else 1000 and the number of the split if a JOIN did", "a MAP goes before any JOIN",
                JobBoundaries::mapBeforeJoin)
                .broken(JOINS, "if (error < MAX_RECORDS && programs[JOIN].length > 0) {"),
            new Boundary("else 2000 if a FOLD", "a JOIN goes before any FOLD", JobBoundaries::joinBeforeFold)
                .broken("return ERROR_JOIN + split;", "return ERROR_FOLD;")
                .broken(FOLDS, "if (error < ERROR_FOLD) {\n                error = foldValues"),
            new Boundary("else 3000 if an END", "a FOLD goes before any END", JobBoundaries::foldBeforeEnd)
                .broken("return ERROR_FOLD;", "return ERROR_END;")
                .broken(ENDS, "if ((error == NO_ERROR || error == ERROR_FOLD) && programs[END].length > 0) {"),
            new Boundary("More than 600 PAIRS in all: 4000", "600 are not too many, 601 are",
                JobBoundaries::moreThan600)
                .broken("MAX_PAIRS = 600", "MAX_PAIRS = 599")
                .broken("MAX_PAIRS = 600", "MAX_PAIRS = 601")
                .broken("ERROR_PAIRS = 4000", "ERROR_PAIRS = 3999"),
            new Boundary("More than 600 PAIRS in all: 4000", "as many as there can be: 2400",
                JobBoundaries::pairs2400)
                .broken(TOO_MANY, "return counts[COUNT_PAIRS] > MAX_PAIRS && counts[COUNT_PAIRS] < 2400"
                    + " ? ERROR_PAIRS : NO_ERROR;"),
            new Boundary("if no MAP failed, of any record", "a MAP that fails behind the 601st pair",
                JobBoundaries::mapBehind600)
                .broken(COUNTED, COUNTED + " if (counts[COUNT_PAIRS] > MAX_PAIRS) { return ERROR_PAIRS; }"),
            new Boundary("(whatever a JOIN does then)", "one that fails, and one that leaves fewer",
                JobBoundaries::whateverJoinDoes)
                .broken(TOO_MANY, "return NO_ERROR;", FOLDS,
                    "if (error == NO_ERROR && counts[COUNT_PAIRS] > MAX_PAIRS) { error = ERROR_PAIRS; }\n" + FOLDS)
                .broken(TOO_MANY, "return NO_ERROR;", FOLDS,
                    "if (error == NO_ERROR && values.length >= MAX_PAIRS) { error = ERROR_PAIRS; }\n" + FOLDS));
    }

    private static void bothOrNone(Tester t) {
        GrindField x = t.field(2, Tester.SAME_PAIR, Tester.ORDER);
        t.records(x, 0, 9, 1, 1, 1, 2, 1, 3);
        t.runs("none", x, 0, 9, 1, (31 + 2) * 31 + 3);
        t.load(x, JOIN, Tester.SUM);
        t.runs("JOIN alone", x, 0, 9, 1, 31 + 5);
        t.load(x, END, NOT_ZERO);
        t.runs("both", x, 1, 31 + 5 + 100);
        t.load(x, JOIN);
        t.runs("END alone", x, 1, (31 + 2) * 31 + 3 + 100);
    }

    private static void eachRecord(Tester t) {
        GrindField x = t.field(16, Tester.SAME_PAIR, Tester.SUM);
        for (int i = 0; i < 120; i++) {
            x.record(i, i + 1);
        }
        t.due("run", x.run(0), 120);
        t.due("of the first", x.valueOf(0), 1);
        t.due("of the last", x.valueOf(119), 120);
        t.due("pairs", x.count(1), 120);
        x.wipe();
        t.records(x, 5, 6);
        t.runs("one alone", x, 5, 6);
    }

    private static void pairsInOrder(Tester t) {
        GrindField x = t.field(16, Tester.MANY, Tester.ORDER);
        t.records(x, 1, 3, 1, 2);
        t.runs("3 2 1 2 1", x, 1, (((3 * 31 + 2) * 31 + 1) * 31 + 2) * 31 + 1);
    }

    private static void recordWithout(Tester t) {
        GrindField x = t.field(1, Tester.MANY, Tester.ORDER);
        t.load(x, JOIN, Tester.SUM);
        t.records(x, 1, 2, 1, 0, 1, 3);
        t.runs("none of the second", x, 1, 3 * 31 + 6);
        t.due("values", x.count(2), 2);
        t.records(x, 1, 0);
        t.runs("none of the last", x, 1, 3 * 31 + 6);
        x.wipe();
        t.records(x, 1, 0, 1, 0);
        t.runs("none of all", x);
    }

    private static void inEachSplit(Tester t) {
        // JOIN is the difference, FOLD the sum.
        GrindField x = t.field(3, Tester.SAME_PAIR, Tester.SUM);
        t.load(x, JOIN, 1, 1, 1, 2, 8, 0, 17, 0);
        t.records(x, 1, 100, 2, 7, 1, 10, 2, 1, 1, 1000, 1, 5);
        t.runs("two splits, two keys", x, 1, 90 + 995, 2, 8);
    }

    private static void joinsInOrder(Tester t) {
        GrindField x = t.field(5, Tester.SAME_PAIR, Tester.SUM);
        t.load(x, JOIN, Tester.ORDER);
        t.records(x, 1, 2, 2, 3, 1, 4, 2, 5, 1, 6);
        t.runs("three and two", x, 1, (2 * 31 + 4) * 31 + 6, 2, 3 * 31 + 5);
        t.due("steps", x.count(5), 3 * 6);
    }

    private static void oneAloneOfJoin(Tester t) {
        GrindField x = t.field(3, Tester.SAME_PAIR, Tester.SUM);
        t.load(x, JOIN, Tester.ENDLESS);
        t.records(x, 1, 4, 2, 5, 3, 6, 1, 7);
        t.runs("one alone in each split", x, 1, 11, 2, 5, 3, 6);
        t.due("steps", x.count(5), 0);
        t.records(x, 1, 8);
        t.failed("two in one", x, 1001);
    }

    private static void allStay(Tester t) {
        GrindField x = t.field(16, Tester.SAME_PAIR, Tester.ORDER);
        t.records(x, 1, 1, 1, 2, 1, 3, 1, 4, 1, 5, 2, 6);
        t.runs("all stay", x, 1, (((31 + 2) * 31 + 3) * 31 + 4) * 31 + 5, 2, 6);
        t.counts("all stay", x, -1, 6, 6, 2, 24, 0, 24, 0);
    }

    private static void firstOfFold(Tester t) {
        GrindField x = t.field(1, Tester.SAME_PAIR, Tester.ENDLESS);
        t.records(x, 1, 4, 2, 5, 3, 6);
        t.runs("one for each key", x, 1, 4, 2, 5, 3, 6);
        t.due("steps", x.count(6), 0);
        t.load(x, FOLD, Tester.ORDER);
        t.records(x, 2, 7);
        t.runs("two for one key", x, 1, 4, 2, 5 * 31 + 7, 3, 6);
        t.due("steps", x.count(6), 6);
    }

    private static void foldsInOrder(Tester t) {
        GrindField x = t.field(2, Tester.SAME_PAIR, Tester.ORDER);
        t.records(x, 2, 1, 1, 2, 1, 3, 2, 4, 1, 5);
        t.runs("three splits", x, 1, (2 * 31 + 3) * 31 + 5, 2, 31 + 4);
    }

    private static void leftOut(Tester t) {
        GrindField x = t.field(1, Tester.SAME_PAIR, Tester.SUM);
        t.load(x, END, NOT_ZERO);
        t.records(x, -1, 1, 1, 2);
        t.runs("none is left out", x, -1, 101, 1, 102);
        t.records(x, 0, 3);
        t.runs("the middle one", x, -1, 101, 1, 102);
        x.wipe();
        t.records(x, 0, 3, 1, 2, 2, 1);
        t.runs("the first", x, 1, 102, 2, 101);
        x.wipe();
        t.records(x, 0, 3, -1, 2, -2, 1);
        t.runs("the last", x, -2, 101, -1, 102);
        x.wipe();
        t.records(x, 0, 3, 0, 4);
        t.runs("all", x);
        t.due("valueOf", x.valueOf(0), Tester.NO_VALUE);
        t.due("keys before END", x.count(3), 1);
    }

    private static void withoutEnd(Tester t) {
        GrindField x = t.field(1, Tester.SAME_PAIR, Tester.SUM);
        t.records(x, -1, 1, 1, 2, 0, 0);
        t.runs("no END", x, -1, 1, 0, 0, 1, 2);
        t.due("steps of END", x.count(7), 0);
    }

    private static void withSign(Tester t) {
        GrindField x = t.field(4, Tester.SAME_PAIR, Tester.SUM);
        t.records(x, 0, 1, GREATEST, 2, -1, 3, LEAST, 4, 1, 5, LEAST + 1, 6, GREATEST - 1, 7);
        t.runs("keys", x, LEAST, 4, LEAST + 1, 6, -1, 3, 0, 1, 1, 5, GREATEST - 1, 7, GREATEST, 2);
    }

    private static void keys600(Tester t) {
        // From a record (k, 20) the pairs (k + 20, 20) to (k + 1, 1).
        GrindField x = t.field(4, new int[] {1, 1, 3, 0, 2, 0, 15, 14, 1, 0, 2, 0, 7, 0, 2, 0, 16, 0,
            2, 0, 0, 1, 8, 0, 3, 0, 14, 2, 17, 0}, Tester.SUM);
        for (int i = 0; i < 30; i++) {
            x.record(i * 7 % 30 * 20 - 300, 20);
        }
        t.due("run", x.run(0), 600);
        for (int k = 0; k < 600; k++) {
            t.due("key " + k, x.result(k, 0), k - 299);
            t.due("value " + k, x.result(k, 1), k % 20 + 1);
            t.due("valueOf " + k, x.valueOf(k - 299), k % 20 + 1);
        }
        t.due("key 600", x.result(600, 0), Tester.NO_VALUE);
    }

    private static void recordFailed(Tester t) {
        GrindField x = t.field(16, Tester.MANY, Tester.SUM);
        t.records(x, 1, 21);
        t.failed("record 0", x, 0);
        x.wipe();
        for (int i = 0; i < 119; i++) {
            x.record(1, 1);
        }
        x.record(1, 21);
        t.failed("record 119", x, 119);
    }

    private static void leastRecord(Tester t) {
        GrindField x = t.field(2, Tester.MANY, Tester.SUM);
        t.records(x, 1, 1, 1, 21, 1, 1, 1, 22);
        t.failed("1 and 3", x, 1);
        t.load(x, MAP, Tester.ENDLESS);
        t.failed("all", x, 0);
    }

    private static void splitFailed(Tester t) {
        GrindField x = t.field(1, Tester.MANY, Tester.SUM);
        t.load(x, JOIN, Tester.ENDLESS);
        t.records(x, 1, 2);
        t.failed("split 0", x, 1000);
        x.wipe();
        for (int i = 0; i < 119; i++) {
            x.record(1, 1);
        }
        x.record(1, 2);
        t.failed("split 119", x, 1119);
    }

    private static void leastSplit(Tester t) {
        GrindField x = t.field(2, Tester.SAME_PAIR, Tester.SUM);
        t.load(x, JOIN, NO_NINE);
        t.records(x, 1, 1, 1, 1, 1, 1, 1, 9, 1, 1, 1, 1, 1, 1, 1, 9);
        t.failed("1 and 3", x, 1001);
        t.load(x, JOIN, Tester.ENDLESS);
        t.failed("all", x, 1000);
    }

    private static void foldFailed(Tester t) {
        GrindField x = t.field(1, Tester.SAME_PAIR, NO_NINE);
        t.records(x, 1, 1, 1, 9, 1, 1);
        t.failed("the first call", x, 2000);
        x.wipe();
        t.records(x, 1, 1, 2, 1, 3, 9, 1, 1, 2, 1, 2, 9);
        t.failed("the last call", x, 2000);
        x.wipe();
        t.records(x, 1, 1, 2, 1, 3, 9, 1, 1, 2, 1);
        t.runs("none", x, 1, 2, 2, 2, 3, 9);
    }

    private static void endFailed(Tester t) {
        GrindField x = t.field(1, Tester.SAME_PAIR, Tester.SUM);
        // A value of 9 does not end, others are the result.
        t.load(x, END, 1, 1, 0, 9, 8, 0, 15, 6, 1, 1, 17, 0, 14, 6);
        t.records(x, 1, 9, 2, 2);
        t.failed("the first call", x, 3000);
        x.wipe();
        t.records(x, 1, 1, 2, 2, 3, 9);
        t.failed("the last call", x, 3000);
        x.wipe();
        t.records(x, 1, 1, 2, 2);
        t.runs("none", x, 1, 1, 2, 2);
    }

    private static void mapBeforeJoin(Tester t) {
        GrindField x = t.field(2, Tester.MANY, Tester.ENDLESS);
        t.load(x, JOIN, Tester.ENDLESS);
        t.load(x, END, Tester.ENDLESS);
        t.records(x, 1, 2, 1, 2, 1, 2, 1, 21);
        t.failed("all of them fail", x, 3);
    }

    private static void joinBeforeFold(Tester t) {
        GrindField x = t.field(2, Tester.SAME_PAIR, Tester.ENDLESS);
        t.load(x, JOIN, Tester.ENDLESS);
        t.load(x, END, Tester.ENDLESS);
        t.records(x, 1, 1, 2, 2, 1, 3, 3, 4, 2, 5, 2, 6);
        t.failed("JOIN in split 2, FOLD of key 1", x, 1002);
    }

    private static void foldBeforeEnd(Tester t) {
        GrindField x = t.field(2, Tester.SAME_PAIR, Tester.ENDLESS);
        t.load(x, END, Tester.ENDLESS);
        t.records(x, 1, 1, 2, 2, 2, 3);
        t.failed("FOLD of key 2, END of key 1", x, 2000);
        x.wipe();
        t.records(x, 1, 1, 2, 2);
        t.failed("END alone", x, 3000);
    }

    private static void moreThan600(Tester t) {
        GrindField x = t.field(4, Tester.MANY, Tester.SUM);
        for (int i = 0; i < 30; i++) {
            x.record(1, 20);
        }
        t.runs("600 pairs", x, 1, 30 * 210);
        t.due("pairs", x.count(1), 600);
        t.due("values", x.count(2), 600);
        x.record(1, 1);
        t.failed("601 pairs", x, 4000);
        x.wipe();
        for (int i = 0; i < 120; i++) {
            x.record(1, 5);
        }
        t.runs("600 pairs of 120 records", x, 1, 120 * 15);
    }

    private static void pairs2400(Tester t) {
        GrindField x = t.field(4, Tester.MANY, Tester.SUM);
        for (int i = 0; i < 120; i++) {
            x.record(1, 20);
        }
        t.failed("2400 pairs", x, 4000);
        x.wipe();
        t.records(x, 1, 20);
        t.runs("20 pairs behind it", x, 1, 210);
    }

    private static void mapBehind600(Tester t) {
        GrindField x = t.field(4, Tester.MANY, Tester.SUM);
        for (int i = 0; i < 119; i++) {
            x.record(1, 20);
        }
        t.failed("no MAP fails", x, 4000);
        x.record(1, 21);
        t.failed("the last MAP fails", x, 119);
    }

    private static void whateverJoinDoes(Tester t) {
        GrindField x = t.field(4, Tester.MANY, Tester.SUM);
        for (int i = 0; i < 31; i++) {
            x.record(1, 20);
        }
        t.failed("no JOIN", x, 4000);
        t.load(x, JOIN, Tester.ENDLESS);
        t.failed("JOIN fails", x, 4000);
        t.load(x, JOIN, Tester.SUM);
        t.failed("JOIN leaves fewer", x, 4000);
        t.load(x, FOLD, Tester.ENDLESS);
        t.load(x, END, Tester.ENDLESS);
        t.failed("FOLD and END would fail", x, 4000);
    }
}
