import java.lang.management.ManagementFactory;

/** All calls of one run live in one room, so that no call but the constructor makes arrays or objects of its own. */
public final class RoomTest {
    private static final int POOLS = 8;
    /** Eight calls each; a pool is used for at most 512 in all. */
    private static final int ROUNDS = 60;
    /** What the machine itself may make beside, far below one small array a call. */
    private static final long SPARE = POOLS * ROUNDS * 8;

    private static final com.sun.management.ThreadMXBean MEMORY =
            (com.sun.management.ThreadMXBean) ManagementFactory.getThreadMXBean();
    private static final long SELF = Thread.currentThread().getId();

    public static void main(String[] args) {
        madeByCalls(newPools());
        // The first run loaded the classes, the second one is looked at.
        long made = madeByCalls(newPools());
        Due.is("what the calls made, " + made + " bytes, is little", made <= SPARE ? 1 : 0, 1);
        Due.end();
    }

    private static BobbinPool[] newPools() {
        BobbinPool[] pools = new BobbinPool[POOLS];
        for (int i = 0; i < POOLS; i++) {
            pools[i] = Due.pool(3, Due.HELP, 1, "fork 1, fork 0, work 2, joinall, keep 0", "work 3, add 1, await 1");
            pools[i].submit(0);
            pools[i].tick(3);
        }
        return pools;
    }

    private static long madeByCalls(BobbinPool[] pools) {
        long before = MEMORY.getThreadAllocatedBytes(SELF);
        for (BobbinPool x : pools) {
            for (int i = 0; i < ROUNDS; i++) {
                x.overIn(0, 60);
                x.valueIn(1, 60);
                x.haltsIn(60);
                x.alone(0, 5, 2);
                x.digest();
                x.load();
                x.tick(1);
                x.setWorkers(5);
            }
        }
        return MEMORY.getThreadAllocatedBytes(SELF) - before;
    }
}
