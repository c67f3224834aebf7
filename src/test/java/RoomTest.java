import java.lang.management.ManagementFactory;

/**
 * All that 512 calls make stays in one room of some 600,000 objects and 7.3 million fields and elements. An object
 * takes 16 bytes at least and an element one, so a run that takes less than 7 million bytes stays in it.
 */
public final class RoomTest {
    private static final Check CHECK = new Check("room");
    private static final long MOST_BYTES = 7_000_000;
    private static final int CALLS = 512;

    public static void main(String[] args) {
        for (int sort = 0; sort < 8; sort++) {
            // The first run also counts what the machine makes for itself, so the second one is taken.
            bytesOfRun(sort);
            long bytes = bytesOfRun(sort);
            CHECK.holds("run " + sort + " takes " + bytes + " bytes", bytes < MOST_BYTES);
        }
        CHECK.end();
    }

    private static long bytesOfRun(int sort) {
        com.sun.management.ThreadMXBean threads =
            (com.sun.management.ThreadMXBean) ManagementFactory.getThreadMXBean();
        long id = Thread.currentThread().getId();
        long before = threads.getThreadAllocatedBytes(id);
        LevelFits x = new LevelFits();
        int calls = fill(x);
        if (sort > 3) {
            x.line(0, 2);
            calls++;
        }
        while (calls < CALLS - 1) {
            calls += dear(x, sort);
        }
        return threads.getThreadAllocatedBytes(id) - before;
    }

    /** Twelve POINTS that no few rows of a low LEVEL can hold. */
    private static int fill(LevelFits x) {
        for (int i = 0; i < 12; i++) {
            x.point(0, 2 * i - 11, (i * 37 % 11 - 5) * 12, 1 + i % 4);
        }
        return 12;
    }

    /** How many calls it made. */
    private static int dear(LevelFits x, int sort) {
        switch (sort) {
            case 0:
                x.pieces(0, 0, 0, 1);
                x.drop();
                return 2;
            case 1:
                x.pieces(0, 2, 10000, 1);
                x.drop();
                return 2;
            case 2:
                x.line(0, 2);
                x.drop();
                return 2;
            case 3:
                x.shorts(0, 1, 2);
                x.drop();
                return 2;
            case 4:
                x.swaps(0, 15);
                return 1;
            case 5:
                x.sheet(0, 2, 40);
                return 1;
            case 6:
                x.act(0, 3, 7);
                return 1;
            default:
                x.level(0, 0);
                x.turns(0);
                return 2;
        }
    }
}
