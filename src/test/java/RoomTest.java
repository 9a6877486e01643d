import com.sun.management.ThreadMXBean;
import java.lang.management.ManagementFactory;

/** The room that an object takes is taken when it is made: the calls make nothing more. */
public final class RoomTest {
    // Far below the room of one array for each of the calls that are measured.
    private static final int SOME_BYTES = 2000;
    private static final int OBJECT_BYTES = 60000;

    public static void main(String[] args) {
        Tester t = new Tester();
        ThreadMXBean memory = (ThreadMXBean) ManagementFactory.getThreadMXBean();
        allCalls(new GrindField(4, 6, 8));
        long start = memory.getCurrentThreadAllocatedBytes();
        GrindField x = new GrindField(4, 6, 8);
        long made = memory.getCurrentThreadAllocatedBytes();
        allCalls(x);
        long end = memory.getCurrentThreadAllocatedBytes();
        t.due("an object is small: " + (made - start), made - start <= OBJECT_BYTES ? 1 : 0, 1);
        t.due("calls make nothing: " + (end - made), end - made <= SOME_BYTES ? 1 : 0, 1);
        t.due("the job is done", x.count(1), 600);
        t.end();
    }

    private static void allCalls(GrindField x) {
        load(x, Tester.MAP, Tester.MANY);
        load(x, Tester.JOIN, Tester.SUM);
        load(x, Tester.FOLD, Tester.SUM);
        load(x, Tester.END, Tester.FIRST);
        for (int i = 0; i < 30; i++) {
            x.record(i % 7, 20);
        }
        for (int i = 0; i < 50; i++) {
            x.run(i);
            for (int k = 0; k < 10; k++) {
                x.result(k, 0);
                x.valueOf(k);
                x.count(k);
                x.check(k);
            }
        }
    }

    private static void load(GrindField x, int program, int[] code) {
        x.clear(program);
        for (int i = 0; i < code.length; i += 2) {
            x.code(program, code[i], code[i + 1]);
        }
    }
}
