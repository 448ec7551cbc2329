import com.sun.management.ThreadMXBean;
import java.lang.management.ManagementFactory;

/**
 * The room that a run may take: a house and its first search stay small enough for 256 of each in one run,
 * and no later call makes anything.
 */
public final class RoomTest {
    private static final ThreadMXBean THREADS = (ThreadMXBean) ManagementFactory.getThreadMXBean();
    // 7.3 million elements in 512 calls, at 4 bytes each: half of these calls make a house, half search in it.
    private static final long MOST_BYTES = 7_300_000L / 256 * 4;

    private static long made() {
        return THREADS.getThreadAllocatedBytes(Thread.currentThread().getId());
    }

    private static void build(PuzzleChests x, int chest) {
        for (int row = 0; row < 4; row++) {
            x.row(chest, row, 4);
        }
        for (int seat = 0; seat < 10; seat++) {
            x.part(chest, seat, seat % 5, 2, seat % 6);
        }
        for (int i = 0; i < 40; i++) {
            x.condition(chest, i % 16 - 1, i % 10, 6);
            x.truth(chest, i, 0, true);
            x.truth(chest, i, 1, true);
        }
    }

    private static void useAll(PuzzleChests x) {
        build(x, 0);
        x.copy(0, 1);
        x.copyTruths(0, 1, 0, 2, 0, 3);
        x.jam(0, 3, 4);
        for (int move = 0; move < 38; move++) {
            x.type(move);
            x.may(0, move);
            x.barredBy(0, move);
            x.move(0, move);
        }
        x.play(0);
        x.attempt(0);
        x.back(0);
        x.search(0, 1000);
        x.goOn(1000);
        x.shortest();
        x.way(0);
        x.along(0);
        x.traps();
        x.trap(0);
        x.hint(0);
        x.markAll();
        x.shows(0);
        x.alike(0, 1);
        x.export(0);
        x.digest(0);
        x.isOpen(0);
        x.make(2, 7, 3);
        x.untype();
        x.take(0, 1);
        x.clear(0);
    }

    public static void main(String[] args) {
        long ofAsking = made();
        ofAsking = made() - ofAsking;
        useAll(new PuzzleChests());
        long before = made();
        PuzzleChests x = new PuzzleChests();
        long house = made() - before - ofAsking;
        x.search(0, 1);
        long first = made() - before - ofAsking;
        for (int i = 0; i < 200; i++) {
            useAll(x);
        }
        long later = made() - before - ofAsking - first;
        boolean fine = first < MOST_BYTES && 2 * house < MOST_BYTES && later < 1000;
        System.out.println("bytes of a house " + house + ", with a search " + first + ", of later calls " + later);
        System.exit(fine ? 0 : 1);
    }
}
