import java.lang.management.ManagementFactory;

/**
 * All calls of one run live in one room of some 600,000 objects and 7.3 million fields and elements:
 * the dearest runs must stay far below that, counted here by bytes (an element has 8 at most).
 */
final class RoomTest {
    private static final long MOST_BYTES = 7_300_000L;
    /** An object has 512 calls, of which some are needed to lay the town. */
    private static final int CALLS = 475;

    public static void main(String[] args) {
        made();
        tells();
        lessons();
        Due.end("RoomTest");
    }

    private static long taken() {
        return ((com.sun.management.ThreadMXBean) ManagementFactory.getThreadMXBean())
            .getThreadAllocatedBytes(Thread.currentThread().getId());
    }

    private static void room(String what, long from) {
        long bytes = taken() - from;
        System.out.println("RoomTest: " + what + ": " + bytes + " bytes");
        Due.holds(what + " took " + bytes + " bytes", bytes < MOST_BYTES);
    }

    private static void made() {
        long from = taken();
        int sum = 0;
        for (int i = 0; i < 256; i++) {
            sum += new TownKnows().all(2);
        }
        Due.is("each has four worlds", sum, 1024);
        room("many objects", from);
    }

    private static TownKnows crowded() {
        TownKnows town = new TownKnows();
        town.begin(4, 4, 15);
        for (int p = 0; p < 4; p++) {
            town.see(p, p);
        }
        town.go(2, 1);
        town.go(3, 2);
        for (int s = 0; s < 4; s++) {
            town.sign(s, s);
        }
        town.tell(0, 1, 0);
        Due.is("64 worlds", town.tell(1, 0, 1), 64);
        return town;
    }

    private static void tells() {
        long from = taken();
        TownKnows town = crowded();
        for (int i = 0; i < CALLS; i++) {
            town.tell(0, 1, 0);
        }
        Due.is("64 worlds", town.all(2), 64);
        room("tells", from);
    }

    private static void lessons() {
        long from = taken();
        TownKnows town = crowded();
        int[] row = {0, 0, 10, 11, 28, 36, 39, 29, 36, 30, 36, 31, 33, 36};
        town.group(1, 15);
        for (int v : row) {
            town.sign(5, v);
        }
        for (int i = 0; i < 5; i++) {
            town.lie(3, 0);
        }
        for (int i = 0; i < CALLS; i++) {
            Due.is("none", town.lessons(5), Due.NONE);
        }
        room("lessons", from);
    }
}
