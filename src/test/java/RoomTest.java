import java.lang.management.ManagementFactory;

/** The dearest runs of 512 calls make next to nothing: all rows are made in the constructor. */
public final class RoomTest {
    private static final int CALLS = 512;
    /** A RootCompass itself takes some 11,000 bytes. */
    private static final long MOST_BYTES = 40000;

    public static void main(String[] args) {
        Check check = new Check("RoomTest");
        long answers = 0;
        for (int warming = 0; warming < 3; warming++) {
            answers += run();
        }
        long before = allocated();
        answers += run();
        long made = allocated() - before;
        check.holds(made < MOST_BYTES, "a run makes " + made + " bytes, at most " + MOST_BYTES);
        check.due(-4, "what the last moves of four runs answered", longAnswer(answers));
        check.end();
    }

    private static java.util.concurrent.Callable<Long> longAnswer(long answer) {
        return () -> answer;
    }

    private static long allocated() {
        return ((com.sun.management.ThreadMXBean) ManagementFactory.getThreadMXBean()).getCurrentThreadAllocatedBytes();
    }

    /** 24 objects at DEPTH 2, then moves that draw them all again and questions about the deepest points. */
    private static long run() {
        RootCompass c = new RootCompass();
        c.free(0, 1, 0, 1);
        c.free(0, 1, 1, 1);
        c.free(1, 1, 1, 1);
        c.free(0, 1, 1, 2);
        c.free(1, 1, 0, 1);
        c.line(0, 1);
        c.circle(3, 3, 4);
        c.meet(5, 6, 1);
        c.circle(0, 0, 7);
        c.line(1, 2);
        c.meet(9, 8, 1);
        for (int o = 11; o < 24; o++) {
            c.meet(8, 9, o % 2);
        }
        long last = 0;
        // The last calls are those that look whether all is there.
        for (int call = 24; call + 4 <= CALLS - 2; call += 4) {
            c.side(0, 10, 11);
            c.equal(0, 10, 0, 11);
            c.on(10, 8);
            last = c.move(0, 0, 1, 0, 1);
        }
        return c.look(0) == 24 && c.look(1) == 2 ? last : 0;
    }
}
