import java.lang.management.ManagementFactory;

/** All calls of a run live in one room: what the dearest runs make stays far below it. */
public final class RoomTest {
    /** The room has 7.3 million fields and elements, of 4 bytes or more each; a run may take a tenth of that. */
    private static final long MOST_BYTES = 7_300_000L * 4 / 10;
    private static final int CALLS = 512;
    private static final long NOBODY = 0x79646f626f6eL;
    private static final Due DUE = new Due();

    public static void main(String[] args) {
        DUE.about("the room");
        for (int which = 0; which < 6; which++) {
            long before = made();
            run(which);
            long bytes = made() - before;
            DUE.holds("run " + which + " made " + bytes + " bytes", bytes < MOST_BYTES);
        }
        DUE.end("RoomTest");
    }

    private static long made() {
        return ((com.sun.management.ThreadMXBean) ManagementFactory.getThreadMXBean())
            .getThreadAllocatedBytes(Thread.currentThread().getId());
    }

    private static void run(int which) {
        OldLadder x = Due.told("ladder 20;far 6;near 6;middle 6;told 6;far 6;gone 19;gone 20");
        for (int i = 0; i < CALLS - 8; i++) {
            switch (which) {
                case 0: x.ways(31 - i % 3); break;
                case 1: x.largest(i & 1); break;
                case 2: x.order(31, i % 6); break;
                case 3: x.mends(31 >> i % 2); break;
                case 4: x.fits(i, i & 1); break;
                default: tellAgain(x, i); break;
            }
        }
    }

    private static void tellAgain(OldLadder x, int i) {
        if (i % 2 == 0) {
            x.write(NOBODY, 6);
        } else {
            x.ladder();
        }
    }
}
