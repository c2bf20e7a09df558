import java.lang.management.ManagementFactory;

/** All calls of one run live in one room, so that no call but the constructor makes arrays or objects of its own. */
public final class RoomTest {
    private static final long CALLS = 512;
    /** What the machine itself may make beside, far below one small array a call. */
    private static final long SPARE = CALLS * 8;

    private static final com.sun.management.ThreadMXBean MEMORY =
            (com.sun.management.ThreadMXBean) ManagementFactory.getThreadMXBean();
    private static final long SELF = Thread.currentThread().getId();

    public static void main(String[] args) {
        // The first run loads the classes, the second one is looked at.
        for (int round = 0; round < 2; round++) {
            BobbinPool x = Due.pool(3, Due.HELP, 1, "fork 1, fork 0, work 2, joinall, keep 0",
                    "work 3, add 1, await 1");
            x.submit(0);
            x.tick(3);
            long before = MEMORY.getThreadAllocatedBytes(SELF);
            for (int i = 0; i < CALLS; i++) {
                x.overIn(0, 60);
                x.valueIn(1, 60);
                x.haltsIn(60);
                x.alone(0, 5, 2);
                x.digest();
                x.load();
                x.tick(1);
                x.setWorkers(5);
            }
            long made = MEMORY.getThreadAllocatedBytes(SELF) - before;
            if (round == 1) {
                Due.is("the calls made little: " + made, made <= SPARE ? 1 : 0, 1);
            }
        }
        Due.end();
    }
}
