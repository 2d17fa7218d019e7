import java.util.function.ToIntFunction;

/** The boundary cases of promises 20 to 22: undo, save, restore. */
public final class StatesBoundaryTest {
    private static final int[] FAR = {Integer.MIN_VALUE, -1, 2, 3, Integer.MAX_VALUE};

    public static void main(String[] args) {
        promise20();
        promise21();
        promise22();
        Check.end();
    }

    /** A board with debts and squares, and a history that is not full. */
    private static DiceRoads played() {
        DiceRoads x = Table.with(60, 40, 5);
        x.set(DiceRoads.TOLL, 40);
        x.go(60);
        return x;
    }

    // ---- promise 20

    private static void promise20() {
        Check.sentence("Promise 20", "Undoes the latest change: everything is as it was before it", () -> {
            isUndone("set", x -> x.set(DiceRoads.WAGE, 99));
            isUndone("player", x -> x.player(9));
            isUndone("seed", x -> x.seed(5));
            isUndone("go", x -> x.go(40));
            isUndone("clear", x -> x.clear(2));
            isUndone("carryOut", DiceRoads::carryOut);
            isUndone("restore", x -> x.restore(0));
        });
        Check.sentence("Promise 20", "everything except the pad", () -> {
            DiceRoads x = Table.with(5);
            Table.write(x, "p1");
            x.seed(7);
            Table.write(x, ";t1");
            x.undo();
            Check.due("the pad is longer than before the change", x.count(15), 5);
            x.wipe();
            x.undo();
            Check.due("a pad that was emptied stays so", x.count(15), 0);
            Table.write(x, "p1");
            x.carryOut();
            x.undo();
            Check.due("also by the change itself", x.count(15), 0);
        });
        Check.sentence("Promise 20", "everything except the slots", () -> {
            DiceRoads x = Table.with(5);
            x.save(0);
            x.player(6);
            x.save(1);
            x.undo();
            x.undo();
            Check.due("players", x.count(1), 0);
            Check.due("slot 0 as it was saved", x.restore(0), 1);
            Check.due("slot 1 as it was saved", x.restore(1), 2);
        });
        Check.sentence("Promise 20", "everything except the history", () -> {
            DiceRoads x = new DiceRoads();
            x.seed(1);
            x.seed(2);
            x.seed(3);
            Check.due("undo()", x.undo(), 2);
            Check.due("it is not taken back by a further one", x.undo(), 1);
            Check.due("count(16)", x.count(16), 1);
            Check.due("x", x.count(8), 1);
        });
        Check.sentence("Promise 20", "A history of at most 6 states is kept", () -> {
            for (int changes = 0; changes <= 14; changes++) {
                DiceRoads x = new DiceRoads();
                for (int i = 1; i <= changes; i++) {
                    x.seed(i);
                }
                int kept = Math.min(changes, 6);
                Check.due(changes + " changes: count(16)", x.count(16), kept);
                for (int left = kept - 1; left >= 0; left--) {
                    Check.due(changes + " changes: undo()", x.undo(), left);
                }
                Check.due(changes + " changes: one more undo()", x.undo(), -5);
            }
        });
        Check.sentence("Promise 20", "each method that is a change, and returns no error, records the state before it",
                StatesBoundaryTest::whatIsRecorded);
        Check.sentence("Promise 20", "also if nothing is different then", StatesBoundaryTest::nothingDifferent);
        Check.sentence("Promise 20", "when one more is recorded, the oldest one is dropped.",
                StatesBoundaryTest::theOldestIsDropped);
        Check.sentence("Promise 20", "An order of a text records nothing by itself.", () -> {
            DiceRoads x = Table.with(5);
            Table.write(x, "p1;x2;t3;c0;p4;x5;t6;c0");
            Check.due("carryOut()", x.carryOut(), 8);
            Check.due("count(16)", x.count(16), 2);
            Check.due("undo()", x.undo(), 1);
            Check.due("players", x.count(1), 1);
            Check.due("turns", x.count(0), 0);
        });
        Check.sentence("Promise 20", "Returns how many changes can be undone then; NOT_POSSIBLE if there is none.", () -> {
            DiceRoads x = new DiceRoads();
            Check.due("of a new object", x.undo(), -5);
            x.seed(1);
            Check.due("the only one", x.undo(), 0);
            Check.due("no more", x.undo(), -5);
            Check.due("still no more", x.undo(), -5);
            Check.due("count(16)", x.count(16), 0);
            x.seed(2);
            x.seed(3);
            Check.due("of two", x.undo(), 1);
            Check.due("the last one", x.undo(), 0);
            Check.due("no more", x.undo(), -5);
        });
    }

    private static void isUndone(String name, ToIntFunction<DiceRoads> change) {
        DiceRoads x = played();
        x.save(0);
        x.go(3);
        Table.write(x, "p7;t5;x9");
        String before = Table.all(x);
        int kept = x.count(16);
        Check.that(name + " is no error", change.applyAsInt(x) >= 0);
        Check.due("undo " + name, x.undo(), Math.min(kept, 5));
        Check.due("undone " + name, Table.all(x), before);
    }

    private static void whatIsRecorded() {
        records(1, "set", x -> x.set(DiceRoads.TOLL, 9));
        records(1, "player", x -> x.player(9));
        records(1, "seed", x -> x.seed(9));
        records(1, "go", x -> x.go(1));
        records(1, "clear", x -> x.clear(1));
        records(1, "carryOut", DiceRoads::carryOut);
        records(1, "restore", x -> x.restore(0));
        records(0, "a set with an error", x -> x.set(DiceRoads.TOLL, 100));
        records(0, "a player with an error", x -> x.player(-1));
        records(0, "a seed with an error", x -> x.seed(10000));
        records(0, "a go with an error", x -> x.go(100));
        records(0, "a clear with an error", x -> x.clear(2));
        records(0, "a carryOut with an error", x -> x.put(';') + x.carryOut());
        records(0, "a restore with an error", x -> x.restore(2));
        records(0, "a restore of nothing", x -> x.restore(1));
        records(0, "of", x -> x.of(0, 0));
        records(0, "ofSquare", x -> x.ofSquare(0, 0));
        records(0, "owes", x -> x.owes(0, 1, 0));
        records(0, "count", x -> x.count(0));
        records(0, "sign", x -> x.sign(0));
        records(0, "chain", x -> x.chain(0, 1));
        records(0, "emptyIn", x -> x.emptyIn(0));
        records(0, "purseIn", x -> x.purseIn(0, 9));
        records(0, "bestSeed", x -> x.bestSeed(0, 9));
        records(0, "put", x -> x.put('1'));
        records(0, "wipe", DiceRoads::wipe);
        records(0, "fault", DiceRoads::fault);
        records(0, "save", x -> x.save(0));
        records(-1, "undo", DiceRoads::undo);
    }

    private static void records(int states, String name, ToIntFunction<DiceRoads> call) {
        DiceRoads x = Table.with(5, 5);
        x.save(0);
        Table.write(x, "t1");
        call.applyAsInt(x);
        Check.due("behind " + name + ": count(16)", x.count(16), 2 + states);
    }

    private static void nothingDifferent() {
        DiceRoads x = Table.with(5);
        x.set(DiceRoads.TOLL, 6);
        Check.due("the same setting", x.count(16), 2);
        x.seed(1);
        Check.due("the same x", x.count(16), 3);
        x.clear(0);
        Check.due("nothing to clear", x.count(16), 4);
        x.save(0);
        x.restore(0);
        Check.due("the same state", x.count(16), 5);
        Table.write(x, "t0");
        x.carryOut();
        Check.due("no order carried out", x.count(16), 6);
        for (int left = 5; left >= 1; left--) {
            Check.due("undo()", x.undo(), left);
            Check.due("the player is still there", x.count(1), 1);
        }
        Check.due("undo()", x.undo(), 0);
        Check.due("now it is not", x.count(1), 0);
    }

    private static void theOldestIsDropped() {
        for (int changes = 6; changes <= 15; changes++) {
            DiceRoads x = new DiceRoads();
            for (int i = 1; i <= changes; i++) {
                x.seed(100 + i);
            }
            for (int i = changes - 1; i >= changes - 6; i--) {
                x.undo();
                Check.due(changes + " changes: x", x.count(8), i == 0 ? 1 : 100 + i);
            }
            x.undo();
            Check.due(changes + " changes: the oldest that is kept", x.count(8), changes == 6 ? 1 : 100 + changes - 6);
            x.seed(7);
            Check.due("recorded anew", x.count(16), 1);
            x.undo();
            Check.due(changes + " changes: and undone", x.count(8), changes == 6 ? 1 : 100 + changes - 6);
        }
        DiceRoads x = new DiceRoads();
        for (int i = 1; i <= 6; i++) {
            x.seed(100 + i);
        }
        x.seed(-1);
        x.go(1);
        x.restore(1);
        for (int i = 5; i >= 0; i--) {
            x.undo();
            Check.due("errors drop none: x", x.count(8), i == 0 ? 1 : 100 + i);
        }
    }

    // ---- promise 21

    private static void promise21() {
        Check.sentence("Promise 21", "Saves everything except the pad", () -> {
            DiceRoads x = Table.with(5);
            Table.write(x, "p1");
            x.save(0);
            Table.write(x, ";t1");
            x.restore(0);
            Check.due("the pad is as it is", x.count(15), 5);
            x.wipe();
            x.restore(0);
            Check.due("also if it is empty", x.count(15), 0);
        });
        Check.sentence("Promise 21", "Saves everything except the history", () -> {
            DiceRoads x = Table.with(5);
            x.save(0);
            x.seed(2);
            x.seed(3);
            x.restore(0);
            Check.due("the history goes on", x.count(16), 4);
            Check.due("undo()", x.undo(), 3);
            Check.due("x", x.count(8), 3);
        });
        Check.sentence("Promise 21", "Saves everything except the slots", () -> {
            DiceRoads x = Table.with(5);
            x.save(0);
            x.player(6);
            x.save(1);
            x.restore(0);
            Check.due("the other slot is still there", x.restore(1), 2);
        });
        Check.sentence("Promise 21", "and overwrites what was saved there.", () -> {
            DiceRoads x = Table.with(5);
            x.save(0);
            x.save(1);
            x.player(6);
            Check.due("save(0)", x.save(0), 2);
            x.player(7);
            Check.due("the later one", x.restore(0), 2);
            Check.due("not in the other slot", x.restore(1), 1);
            x.save(0);
            Check.due("also by fewer players", x.restore(0), 1);
            Check.due("none of the others is left", x.of(1, 0), -1);
        });
        Check.sentence("Promise 21", "slot: 0 or 1; BAD_VALUE if there is no such slot.", () -> {
            DiceRoads x = Table.with(5);
            Check.due("save(0)", x.save(0), 1);
            Check.due("save(1)", x.save(1), 1);
            for (int slot : FAR) {
                Check.due("save(" + slot + ")", x.save(slot), -2);
            }
            Check.due("save is no change", x.count(16), 1);
        });
        Check.sentence("Promise 21", "Returns how many players there are: from 0 to 4", () -> {
            DiceRoads x = new DiceRoads();
            for (int players = 0; players <= 4; players++) {
                Check.due("save(0)", x.save(0), players);
                Check.due("save(1)", x.save(1), players);
                x.player(5);
            }
        });
    }

    // ---- promise 22

    private static void promise22() {
        Check.sentence("Promise 22", "Restores what was saved last in a slot, which keeps it.", () -> {
            DiceRoads x = played();
            x.save(1);
            String saved = Table.all(x);
            x.go(50);
            Check.due("restore(1)", x.restore(1), 3);
            Check.due("what was saved", Table.all(x), saved);
            x.go(50);
            x.player(5);
            x.restore(1);
            Check.due("once more", Table.all(x), saved);
        });
        Check.sentence("Promise 22", "This is a change.", () -> {
            DiceRoads x = Table.with(5);
            x.save(0);
            x.player(6);
            x.player(7);
            x.restore(0);
            Check.due("recorded", x.count(16), 4);
            Check.due("undo()", x.undo(), 3);
            Check.due("players", x.count(1), 3);
            Check.due("the slot keeps it then", x.restore(0), 1);
        });
        Check.sentence("Promise 22", "Returns how many players there are then: from 0 to 4", () -> {
            for (int players = 0; players <= 4; players++) {
                DiceRoads x = new DiceRoads();
                for (int i = 0; i < players; i++) {
                    x.player(5);
                }
                x.save(0);
                for (int i = 0; i < 4; i++) {
                    x.player(6);
                }
                Check.due("restore(0)", x.restore(0), players);
                Check.due("players", x.count(1), players);
                Check.due("a change also without players", x.count(16), 5);
            }
        });
        Check.sentence("Promise 22", "slot: 0 or 1; BAD_VALUE if there is no such slot", () -> {
            DiceRoads x = Table.with(5);
            x.save(0);
            x.save(1);
            for (int slot : FAR) {
                Check.due("restore(" + slot + ")", x.restore(slot), -2);
            }
            Check.due("errors are not recorded", x.count(16), 1);
            Check.due("restore(0)", x.restore(0), 1);
            Check.due("restore(1)", x.restore(1), 1);
        });
        Check.sentence("Promise 22", "NOT_POSSIBLE if nothing was saved in it.", () -> {
            DiceRoads x = Table.with(5);
            Check.due("restore(0)", x.restore(0), -5);
            Check.due("restore(1)", x.restore(1), -5);
            x.save(1);
            Check.due("still nothing in the other one", x.restore(0), -5);
            Check.due("now something in this one", x.restore(1), 1);
            x.undo();
            x.undo();
            Check.due("nothing in the other one by undo", x.restore(0), -5);
            Check.due("count(16)", x.count(16), 0);
            x.save(0);
            Check.due("a state without players is something", x.restore(0), 0);
        });
    }
}
