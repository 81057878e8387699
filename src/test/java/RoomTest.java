import com.sun.management.ThreadMXBean;
import java.lang.management.ManagementFactory;

/**
 * A desk and its 512 calls live in one room of some 600,000 objects and 7.3 million fields and elements.
 * An object takes at least 16 bytes, a field or an element at least one: what takes less than 16 bytes
 * for each object and one for each element keeps to both.
 */
public final class RoomTest {
    private static final int CALLS = 512;
    private static final long BYTES = Math.min(16L * 600_000, 7_300_000L);
    private static final ThreadMXBean THREADS = (ThreadMXBean) ManagementFactory.getThreadMXBean();

    public static void main(String[] args) {
        long start = taken();
        askAll(full());
        within("all digests of a run", start);
        start = taken();
        changeAll(full());
        within("all changes of a run", start);
        start = taken();
        refuseAll(full());
        within("all refused calls of a run", start);
        Due.end("RoomTest");
    }

    private static long taken() {
        return THREADS.getThreadAllocatedBytes(Thread.currentThread().getId());
    }

    private static void within(String what, long start) {
        long bytes = taken() - start;
        Due.is(what + " take " + bytes + " bytes: within the room", true, () -> bytes < BYTES);
    }

    /** The dearest desk to ask: 60 notes, each played eight times; 61 calls. */
    private static OvertureDesk full() {
        OvertureDesk desk = new OvertureDesk();
        for (int i = 0; i < 60; i++) {
            desk.write(i % 6, 9000 + i, 960, 60, 100);
        }
        desk.setLoop(0, 9600, 8);
        return desk;
    }

    private static void askAll(OvertureDesk desk) {
        for (int i = 61; i < CALLS; i++) {
            desk.digest();
        }
    }

    private static void changeAll(OvertureDesk desk) {
        for (int i = 61; i + 3 <= CALLS; i += 3) {
            desk.weigh(-1, 0, 9600, i % 2 == 0 ? 101 : 99);
            desk.setTrack(i % 6, false, false, i % 24, i % 48);
            desk.undo();
        }
    }

    private static void refuseAll(OvertureDesk desk) {
        for (int i = 61; i < CALLS; i++) {
            Due.told(() -> desk.write(0, 0, 1, 0, 1));
        }
    }
}
