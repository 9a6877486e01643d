import java.util.List;

/** What 'Terms' says of RECORDS and SPLITS. */
final class RecordBoundaries {
    private static final int LEAST = Tester.LEAST, GREATEST = Tester.GREATEST;

    private static final String SPLITS_NOW = "(records.length + size - 1) / size : job";

    private RecordBoundaries() {
    }

    static List<Boundary> all() {
        return List.of(
            new Boundary("a key and a value, ints", "from the least to the greatest",
                RecordBoundaries::ints)
                .broken("keys[length] = key;", "keys[length] = (short) key;")
                .broken("values[length] = value;", "values[length] = (short) value;"),
            new Boundary("at most 120", "the 120th comes, the 121st does not",
                RecordBoundaries::atMost120)
                .broken("MAX_RECORDS = 120", "MAX_RECORDS = 119")
                .broken("MAX_RECORDS = 120", "MAX_RECORDS = 121"),
            new Boundary("numbered from 0 as they came", "the first is 0, also behind a wipe",
                RecordBoundaries::numbered)
                .broken("records.length - 1 : FULL", "records.length : FULL")
                .broken("records.length = 0;", "records.length = 1;"),
            new Boundary("SIZE records each (told when made, 1 to 16", "SIZE are one split, SIZE + 1 are two",
                RecordBoundaries::sizeEach)
                .broken("splitEnds[i / size]", "splitEnds[i / (size + 1)]")
                .broken("splitEnds[i / size]", "splitEnds[(i + 1) / size]"),
            new Boundary("the last one may be smaller", "from one record to all but one",
                RecordBoundaries::lastSmaller)
                .broken(SPLITS_NOW, "records.length / size : job")
                .broken("int splits = (records.length + size - 1) / size;",
                    "int splits = records.length / size;"),
            new Boundary("the last one may be smaller", "a full one is followed by none",
                RecordBoundaries::lastFull)
                .broken(SPLITS_NOW, "records.length / size + 1 : job"),
            new Boundary("the last one may be smaller", "no records are no split",
                RecordBoundaries::noSplit)
                .broken(SPLITS_NOW, "Math.max(1, (records.length + size - 1) / size) : job"),
            new Boundary("by rising numbers", "the split of record 0 is the first, that of 119 the last",
                RecordBoundaries::risingSplits)
                .broken("for (int split = 0; split < splits; split++) {",
                    "for (int split = splits - 1; split >= 0; split--) {"
                    + " start = split == 0 ? 0 : splitEnds[split - 1];"));
    }

    private static void ints(Tester t) {
        GrindField x = t.field(1, Tester.SAME_PAIR, Tester.FIRST);
        t.records(x, GREATEST, LEAST, LEAST, GREATEST, 65536, 65537, -1, 0);
        t.runs("ints", x, LEAST, GREATEST, -1, 0, 65536, 65537, GREATEST, LEAST);
    }

    private static void atMost120(Tester t) {
        GrindField x = new GrindField(16, 1, 1);
        for (int i = 0; i < 120; i++) {
            t.due("record " + i, x.record(i, i), i);
        }
        t.due("record 120", x.record(0, 0), GrindField.FULL);
        t.due("record 120 again", x.record(0, 0), GrindField.FULL);
        t.due("records", x.count(8), 120);
    }

    private static void numbered(Tester t) {
        GrindField x = new GrindField(16, 1, 1);
        t.due("the first", x.record(9, 9), 0);
        t.due("the second", x.record(9, 9), 1);
        t.due("the third", x.record(-9, 9), 2);
        t.due("wipe", x.wipe(), 3);
        t.due("the first again", x.record(9, 9), 0);
    }

    /** Of each split one value goes on, so the values tell the splits. */
    private static GrindField joining(Tester t, int size, int records) {
        GrindField x = t.field(size, Tester.SAME_PAIR, Tester.ORDER);
        t.load(x, Tester.JOIN, Tester.SUM);
        for (int i = 0; i < records; i++) {
            x.record(1, i + 1);
        }
        t.due("run", x.run(0), 1);
        return x;
    }

    private static void sizeEach(Tester t) {
        for (int size = 1; size <= 16; size++) {
            int sum = size * (size + 1) / 2;
            GrindField one = joining(t, size, size);
            t.results("one split of " + size, one, 1, sum);
            t.due("values of one split", one.count(2), 1);
            GrindField two = joining(t, size, size + 1);
            t.results("two splits of " + size, two, 1, sum * 31 + size + 1);
            t.due("values of two splits", two.count(2), 2);
        }
    }

    private static void lastSmaller(Tester t) {
        int[] lasts = {11, 11 + 12, 11 + 12 + 13, 11 + 12 + 13 + 14};
        for (int more = 1; more <= 4; more++) {
            GrindField x = joining(t, 5, 10 + more);
            t.due("splits", x.count(9), 3);
            t.due("values", x.count(2), 3);
            t.results("last one of " + more, x, 1, (15 * 31 + 40) * 31 + lasts[more - 1]);
        }
    }

    private static void lastFull(Tester t) {
        for (int size = 1; size <= 16; size++) {
            GrindField x = joining(t, size, 3 * size);
            t.due("splits of size " + size, x.count(9), 3);
            t.due("values", x.count(2), 3);
        }
    }

    private static void noSplit(Tester t) {
        GrindField x = t.field(3, Tester.SAME_PAIR, Tester.SUM);
        t.load(x, Tester.JOIN, Tester.SUM);
        t.due("splits", x.count(9), 0);
        t.runs("no records", x);
        t.due("splits", x.count(9), 0);
        x.record(1, 1);
        t.due("splits", x.count(9), 1);
        x.wipe();
        t.due("splits", x.count(9), 0);
    }

    private static void risingSplits(Tester t) {
        GrindField x = joining(t, 1, 120);
        int want = 1;
        for (int i = 2; i <= 120; i++) {
            want = want * 31 + i;
        }
        t.results("120 splits", x, 1, want);
    }
}
