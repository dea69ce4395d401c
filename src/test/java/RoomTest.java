import java.lang.management.ManagementFactory;

/** A whole run of the dearest calls makes few objects: what is needed again and again stands in rows. */
public final class RoomTest {
    private static final long MANY_BYTES = 1_000_000;

    private RoomTest() {
    }

    public static void main(String[] args) {
        Check check = new Check("RoomTest");
        var threads = (com.sun.management.ThreadMXBean) ManagementFactory.getThreadMXBean();
        long thread = Thread.currentThread().getId();
        run();
        long before = threads.getThreadAllocatedBytes(thread);
        run();
        long made = threads.getThreadAllocatedBytes(thread) - before;
        check.same("a run makes at most " + MANY_BYTES + " bytes, not " + made, made <= MANY_BYTES, true);
        check.end();
    }

    private static void run() {
        QuarryIndex x = new QuarryIndex();
        int calls = 0;
        for (int number = 0; number < 60; number++) {
            x.open(number, number % 8);
            x.write(number % 3, number);
            x.close();
            calls += 3;
        }
        x.flush();
        for (int node = 0; node < 30; node++) {
            x.term(node, 7);
        }
        calls += 31;
        for (; calls < 512; calls += 6) {
            x.digest();
            x.search(29);
            x.wouldScore(29, 59);
            x.mate(7);
            x.window(0, 29, 0, 12);
            x.compact();
        }
    }
}
