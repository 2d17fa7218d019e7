import java.util.function.ToIntFunction;

/** Promises 20 to 22: undo, save, restore. */
public final class HistoryTest {
    public static void main(String[] args) {
        promise20UndoStepByStep();
        promise20AtMostSix();
        promise20AllChangesAreUndone();
        promise20ErrorsDropNothing();
        promise20OthersAreNoChanges();
        promise20AfterUndoANewHistory();
        promise21Save();
        promise21SaveKeepsACopy();
        promise22Restore();
        promise22RestoreIsAChange();
        promise22SlotsAreNotUndone();
        promise22EverythingIsRestored();
        Check.end();
    }

    private static void promise20UndoStepByStep() {
        DiceRoads x = new DiceRoads();
        Check.due("nothing to undo", x.undo(), -5);
        x.player(5);
        x.player(6);
        x.set(DiceRoads.DUE, 9);
        Check.due("count(16)", x.count(16), 3);
        Check.due("undo the setting", x.undo(), 2);
        Check.due("DUE", x.count(13), 4);
        Check.due("undo a player", x.undo(), 1);
        Check.due("players", x.count(1), 1);
        Check.due("undo the other", x.undo(), 0);
        Check.due("players", x.count(1), 0);
        Check.due("nothing left", x.undo(), -5);
        Check.due("a player comes again", x.player(7), 0);
        Check.due("its purse", x.of(0, 0), 7);
    }

    private static void promise20AtMostSix() {
        DiceRoads x = new DiceRoads();
        for (int i = 0; i < 20; i++) {
            x.seed(100 + i);
            Check.due("kept", x.count(16), Math.min(i + 1, 6));
        }
        for (int i = 1; i <= 6; i++) {
            Check.due("undo " + i, x.undo(), 6 - i);
            Check.due("x behind undo " + i, x.count(8), 119 - i);
        }
        Check.due("the seventh is dropped", x.undo(), -5);
        Check.due("it stays", x.count(8), 113);
    }

    private static void promise20AllChangesAreUndone() {
        isUndone("set", x -> x.set(DiceRoads.PRICE, 99));
        isUndone("player", x -> x.player(77));
        isUndone("seed", x -> x.seed(123));
        isUndone("go", x -> x.go(50));
        isUndone("clear", x -> x.clear(0));
        isUndone("carryOut", DiceRoads::carryOut);
        isUndone("restore", x -> x.restore(1));
    }

    /** Does the change behind so many others that the history knows nothing older, and undoes it. */
    private static void isUndone(String name, ToIntFunction<DiceRoads> change) {
        DiceRoads x = played();
        x.save(1);
        for (int i = 0; i < 7; i++) {
            x.go(1);
        }
        Table.write(x, "p1;t80;x5");
        String before = Table.all(x);
        Check.that(name + " is no error", change.applyAsInt(x) >= 0);
        Check.due("undo " + name, x.undo(), 5);
        Check.due("undone " + name, Table.all(x), before);
    }

    /** A game with debts, lost squares and shared bridges. */
    private static DiceRoads played() {
        DiceRoads x = Table.with(80, 40, 20);
        x.set(DiceRoads.TOLL, 40);
        x.go(90);
        return x;
    }

    private static void promise20ErrorsDropNothing() {
        DiceRoads x = new DiceRoads();
        for (int i = 0; i < 7; i++) {
            x.seed(i);
        }
        x.set(9, 9);
        x.player(-1);
        x.seed(-1);
        x.go(1);
        x.clear(0);
        x.carryOut();
        x.restore(0);
        x.restore(2);
        Check.due("six are kept", x.count(16), 6);
        for (int i = 5; i >= 0; i--) {
            x.undo();
            Check.due("x", x.count(8), i);
        }
        Check.due("none left", x.undo(), -5);
    }

    private static void promise20OthersAreNoChanges() {
        DiceRoads x = played();
        int changes = x.count(16);
        x.of(0, 0);
        x.ofSquare(0, 0);
        x.owes(0, 1, 0);
        x.count(0);
        x.sign(0);
        x.chain(0, 1);
        x.emptyIn(0);
        x.purseIn(0, 5);
        x.bestSeed(0, 5);
        x.put('p');
        x.fault();
        x.wipe();
        x.save(0);
        Check.due("changes", x.count(16), changes);
    }

    private static void promise20AfterUndoANewHistory() {
        DiceRoads x = new DiceRoads();
        for (int i = 0; i < 9; i++) {
            x.seed(i);
        }
        x.undo();
        x.undo();
        x.seed(100);
        Check.due("kept", x.count(16), 5);
        x.undo();
        Check.due("x", x.count(8), 6);
        x.undo();
        Check.due("x", x.count(8), 5);
    }

    private static void promise21Save() {
        DiceRoads x = new DiceRoads();
        Check.due("save without players", x.save(0), 0);
        x.player(5);
        x.player(5);
        Check.due("save(1)", x.save(1), 2);
        Check.due("save(-1)", x.save(-1), -2);
        Check.due("save(2)", x.save(2), -2);
        Check.due("save(MIN)", x.save(Integer.MIN_VALUE), -2);
        Check.due("save(MAX)", x.save(Integer.MAX_VALUE), -2);
        Check.due("no change", x.count(16), 2);
        Check.due("restore(0)", x.restore(0), 0);
        Check.due("players", x.count(1), 0);
        Check.due("restore(1)", x.restore(1), 2);
    }

    private static void promise21SaveKeepsACopy() {
        DiceRoads x = played();
        x.save(0);
        String saved = Table.all(x);
        x.go(30);
        String later = Table.all(x);
        x.save(1);
        x.go(30);
        x.restore(0);
        Check.due("slot 0", Table.all(x), saved);
        x.restore(1);
        Check.due("slot 1", Table.all(x), later);
        x.save(0);
        x.go(1);
        x.restore(0);
        Check.due("slot 0 overwritten", Table.all(x), later);
    }

    private static void promise22Restore() {
        DiceRoads x = Table.with(5, 5);
        Check.due("restore(0)", x.restore(0), -5);
        Check.due("restore(1)", x.restore(1), -5);
        Check.due("restore(-1)", x.restore(-1), -2);
        Check.due("restore(2)", x.restore(2), -2);
        Check.due("restore(MIN)", x.restore(Integer.MIN_VALUE), -2);
        Check.due("restore(MAX)", x.restore(Integer.MAX_VALUE), -2);
        x.save(0);
        x.player(5);
        Check.due("the other slot", x.restore(1), -5);
        Check.due("restore(0)", x.restore(0), 2);
        x.player(6);
        x.go(9);
        Check.due("the slot keeps it", x.restore(0), 2);
        Check.due("turns", x.count(0), 0);
    }

    private static void promise22RestoreIsAChange() {
        DiceRoads x = Table.with(5, 5);
        x.save(0);
        x.go(9);
        String before = Table.all(x);
        x.restore(0);
        Check.due("recorded", x.count(16), 4);
        Check.due("undo()", x.undo(), 3);
        Check.due("undone", Table.all(x), before);
    }

    private static void promise22SlotsAreNotUndone() {
        DiceRoads x = Table.with(5);
        x.save(0);
        x.undo();
        Check.due("no players", x.count(1), 0);
        Check.due("the slot is still there", x.restore(0), 1);
        Table.write(x, "p1");
        x.restore(0);
        Check.due("the pad is no part of it", x.count(15), 2);
    }

    private static void promise22EverythingIsRestored() {
        DiceRoads x = played();
        x.save(0);
        int due = x.purseIn(1, 99);
        String before = Table.all(x);
        x.go(99);
        String after = Table.all(x);
        for (int setting = 0; setting < 5; setting++) {
            x.set(setting, 1);
        }
        x.restore(0);
        Check.due("restored", Table.all(x), before);
        Check.due("and what turns would bring", x.purseIn(1, 99), due);
        x.go(99);
        Check.due("and what they bring", Table.all(x), after);
    }
}
