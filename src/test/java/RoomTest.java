import java.lang.management.ManagementFactory;

/**
 * All calls of one run live in one room of some 600,000 objects and 7.3 million fields and elements:
 * a call may take its share of 512 at most, and so may the making of a desk.
 */
public final class RoomTest {
    private static final int CALLS = 512;
    private static final long ELEMENTS = 7_300_000;
    // An object takes at least 16 bytes, an element of the rows that are made takes 4 or 8.
    private static final long BYTES = ELEMENTS * 4;

    public static void main(String[] args) {
        com.sun.management.ThreadMXBean threads =
                (com.sun.management.ThreadMXBean) ManagementFactory.getThreadMXBean();
        long thread = Thread.currentThread().getId();
        OvertureDesk desk = new OvertureDesk();
        for (int i = 0; i < 60; i++) {
            desk.write(i % 6, 9000 + i, 960, 60, 100);
        }
        desk.setLoop(0, 9600, 8);
        long before = threads.getThreadAllocatedBytes(thread);
        for (int i = 61; i < CALLS; i++) {
            desk.digest();
        }
        long taken = threads.getThreadAllocatedBytes(thread) - before;
        Due.is("all digests of a run take " + taken + " bytes: within the room", true, () -> taken < BYTES / 100);
        long start = threads.getThreadAllocatedBytes(thread);
        OvertureDesk[] desks = new OvertureDesk[CALLS];
        for (int i = 0; i < CALLS; i++) {
            desks[i] = new OvertureDesk();
        }
        long made = threads.getThreadAllocatedBytes(thread) - start;
        Due.is("512 desks take " + made + " bytes: within the room", true, () -> made < BYTES);
        Due.end("RoomTest");
    }
}
