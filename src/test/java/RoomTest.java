import java.lang.management.ManagementFactory;

/** What a run of 512 calls makes has to fit in the room that LANGUAGE.md and the task name. */
public final class RoomTest {
    private static final Expect expect = new Expect("room");
    // 600,000 objects with 7.3 million fields and elements of 4 bytes; their headers are left out on purpose.
    private static final long ROOM = 7_300_000L * 4;

    public static void main(String[] args) {
        run(16); // so that nothing is counted that the machine makes at first
        long before = allocated();
        run(512);
        long after = allocated();
        expect.holds("a run of 512 calls makes " + (after - before) + " bytes, at most " + ROOM, after - before <= ROOM);
        expect.finish();
    }

    // The dearest calls: each change makes all results stale, and digest asks for all of them.
    private static void run(int calls) {
        DixonEliminator d = new DixonEliminator();
        for (int call = 0; call < calls; call += 2) {
            expect.holds("draw", d.draw(call, 2, 2, 2, 1) > 0);
            d.digest();
        }
    }

    private static long allocated() {
        com.sun.management.ThreadMXBean bean =
                (com.sun.management.ThreadMXBean) ManagementFactory.getThreadMXBean();
        return bean.getThreadAllocatedBytes(Thread.currentThread().getId());
    }
}
