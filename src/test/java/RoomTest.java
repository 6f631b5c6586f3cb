import java.lang.management.ManagementFactory;

/** What a run makes stays small: rows are made once and used again. */
public final class RoomTest {
    private static final Due DUE = new Due("RoomTest");
    private static final com.sun.management.ThreadMXBean THREADS =
        (com.sun.management.ThreadMXBean) ManagementFactory.getThreadMXBean();

    public static void main(String[] args) {
        // Behind a first go the machine has loaded all classes that it makes objects of for itself.
        dearCalls();
        new DifferRings();
        THREADS.getCurrentThreadAllocatedBytes();
        long before = THREADS.getCurrentThreadAllocatedBytes();
        new DifferRings();
        long made = THREADS.getCurrentThreadAllocatedBytes() - before;
        DUE.holds("a new object is small: " + made, made < 4_000);
        before = THREADS.getCurrentThreadAllocatedBytes();
        dearCalls();
        long run = THREADS.getCurrentThreadAllocatedBytes() - before;
        // Eight rows of 7776 ints, twice at most as rings grow, and the test's own texts.
        DUE.holds("a run of dear calls is small: " + run, run < 700_000);
        DUE.end();
    }

    private static void dearCalls() {
        DifferRings x = new DifferRings();
        String[] texts = {"r2;p0;p1", "r3;p0;f2;m1", "r5;p4;f1;m3;p0", "r6;m5;m4;m3;m2;m1", "r2;p0;p1",
            "r6;p5;m4;m3;f2;m1"};
        for (String text : texts) {
            Due.tell(x, text);
            for (int k = 0; k < 4; k++) {
                x.reading(99, 0, k);
                x.kinds(0);
                x.firsts(0);
                x.odds(0, 99 - k, 0, 0);
                x.rows(4);
                x.longest(0);
                x.few(1);
                x.from(0);
                x.now(0);
                x.after(0, 1000000000000000000L);
                x.sheet(0, 2, 60);
                x.day(0, 2, 0, 20, 4);
                x.meet(0, 2, 0);
                x.copy(0, 0, 0, 1, 59);
                x.tell(0);
            }
        }
    }
}
