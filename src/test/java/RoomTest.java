import java.lang.management.ManagementFactory;

/** All calls of a run live in one room: a call that is answered makes no object. */
public final class RoomTest {
    private static final int CALLS = 512;
    // The smallest object takes 16 bytes, so one made by each call goes far beyond this.
    private static final long MOST_BYTES = CALLS * 8;
    private static final int MOST_BYTES_OF_A_NEW_ONE = 64 * 1024;

    private static long kept = 0;

    public static void main(String[] args) {
        com.sun.management.ThreadMXBean thread = (com.sun.management.ThreadMXBean) ManagementFactory.getThreadMXBean();
        PictureChange warm = board();
        callAll(warm);
        long before = thread.getCurrentThreadAllocatedBytes();
        PictureChange p = board();
        long made = thread.getCurrentThreadAllocatedBytes();
        callAll(p);
        long after = thread.getCurrentThreadAllocatedBytes();
        boolean fits = made - before <= MOST_BYTES_OF_A_NEW_ONE && after - made <= MOST_BYTES;
        System.out.println("a new object: " + (made - before) + " bytes, its calls: " + (after - made)
                + " bytes, answers: " + kept);
        if (!fits) {
            System.exit(1);
        }
    }

    private static PictureChange board() {
        PictureChange p = new PictureChange(24, 24);
        for (int y = 0; y < 24; y++) {
            for (int x = y % 2; x < 24; x += 2) {
                p.cell(true, x, y, 200);
            }
        }
        return p;
    }

    private static void callAll(PictureChange p) {
        for (int k = 0; k < CALLS; k++) {
            kept += p.register(3) + p.run() + p.gain(1) + p.change(3, 3) + p.alarm(-1, 1 << 30, 9);
            kept += p.chart(k % 24, 0, k % 2 == 0) ? 1 : 0;
            kept += p.repeat(1, 1, 5) + p.bound(1, 1) + p.growth(0) + p.count(3) + p.spot(0, 6) + p.map(0, 0);
            if (k < 30) {
                kept += p.day(k);
            }
        }
    }
}
