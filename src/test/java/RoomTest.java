import com.sun.management.ThreadMXBean;
import java.lang.management.ManagementFactory;
import java.util.function.IntConsumer;

/** The room that a run takes: all its calls live in one, so that they may make next to nothing. */
public final class RoomTest {
    private static final int CALLS = 400;
    /** Far less than one object for each of the calls. */
    private static final long NEXT_TO_NOTHING = 4 * CALLS;
    /** What a new object may take; the whole room is some hundred times as large. */
    private static final long SMALL = 100_000;

    private static final ThreadMXBean THREADS = (ThreadMXBean) ManagementFactory.getThreadMXBean();

    public static void main(String[] args) {
        DiceRoads[] made = {new DiceRoads()};
        Check.that("a new object takes little room", taken(1, call -> made[0] = new DiceRoads()) < SMALL);
        takesNothing("what there is", RoomTest::ask);
        takesNothing("changes", RoomTest::change);
        takesNothing("what if", RoomTest::suppose);
        takesNothing("texts", RoomTest::write);
        takesNothing("undo, saving", RoomTest::keep);
        Check.end();
    }

    /** Calls of one object, by their numbers. */
    private interface Calls {
        void make(DiceRoads x, int call);
    }

    private static void takesNothing(String name, Calls calls) {
        // a run ahead, in which the machine loads what it needs
        for (int run = 0; run < 2; run++) {
            DiceRoads x = Table.with(60, 40, 5, 0);
            x.set(DiceRoads.TOLL, 40);
            x.go(60);
            x.save(0);
            x.save(1);
            long bytes = taken(CALLS, call -> calls.make(x, call));
            if (run == 1) {
                Check.that(name + ": " + CALLS + " calls take next to nothing, not " + bytes, bytes < NEXT_TO_NOTHING);
            }
        }
    }

    private static long taken(int calls, IntConsumer each) {
        long before = THREADS.getCurrentThreadAllocatedBytes();
        for (int call = 0; call < calls; call++) {
            each.accept(call);
        }
        return THREADS.getCurrentThreadAllocatedBytes() - before;
    }

    private static void ask(DiceRoads x, int call) {
        switch (call % 5) {
            case 0 -> x.of(call / 5 % 4, call / 5 % 9);
            case 1 -> x.ofSquare(call / 5 % 20, call / 5 % 6);
            case 2 -> x.owes(call / 5 % 4, call / 5 % 3, call / 5 % 2);
            case 3 -> x.count(call / 5 % 17);
            default -> x.sign(call / 5 % 44);
        }
    }

    private static void change(DiceRoads x, int call) {
        switch (call % 5) {
            case 0 -> x.set(DiceRoads.WAGE, call % 99);
            case 1 -> x.player(call);
            case 2 -> x.seed(call);
            case 3 -> x.go(1 + call % 99);
            default -> x.clear(call / 5 % 4);
        }
    }

    private static void suppose(DiceRoads x, int call) {
        switch (call % 4) {
            case 0 -> x.chain(call / 4 % 4, call / 4 % 3);
            case 1 -> x.emptyIn(call / 4 % 4);
            case 2 -> x.purseIn(call / 4 % 4, 99);
            default -> x.bestSeed(call / 4 % 4, 60);
        }
    }

    private static void write(DiceRoads x, int call) {
        switch (call % 6) {
            // "p5;t3", and behind it a sign that cannot stand there
            case 0, 3 -> x.put(0x70353b7433L);
            case 4 -> x.put('!');
            case 1 -> x.fault();
            case 2 -> x.carryOut();
            default -> x.wipe();
        }
    }

    private static void keep(DiceRoads x, int call) {
        switch (call % 4) {
            case 0 -> x.undo();
            case 1 -> x.save(call / 4 % 2);
            case 2 -> x.restore(call / 4 % 3);
            default -> x.seed(call);
        }
    }
}
