/** Promises 1 to 4: a new object, set, player, seed. */
public final class SettingsTest {
    public static void main(String[] args) {
        promise1NewObject();
        promise2SetAnswersThePreviousValue();
        promise2SetRanges();
        promise2SetIsAChange();
        promise3PlayersComeInOrder();
        promise3PlayerRanges();
        promise3PlayerInTheMiddleOfAGame();
        promise4Seed();
        Check.end();
    }

    private static void promise1NewObject() {
        DiceRoads x = new DiceRoads();
        Check.due("text of a new board", Table.text(x), "o----=----o----=----");
        int[] counts = {0, 0, -6, 0, 0, 0, 0, 0, 1, 20, 15, 6, 3, 4, 20, 0, 0};
        for (int what = 0; what < counts.length; what++) {
            Check.due("new: count(" + what + ")", x.count(what), counts[what]);
        }
        for (int square = 0; square < 20; square++) {
            Check.due("new: ofSquare(" + square + ", 1)", x.ofSquare(square, 1), -6);
            Check.due("new: ofSquare(" + square + ", 2)", x.ofSquare(square, 2), -6);
            Check.due("new: ofSquare(" + square + ", 4)", x.ofSquare(square, 4), 0);
        }
        Check.due("new: undo()", x.undo(), -5);
        Check.due("new: restore(0)", x.restore(0), -5);
        Check.due("new: fault()", x.fault(), 0);
        Check.due("new: of(0, 0)", x.of(0, 0), -1);
    }

    private static void promise2SetAnswersThePreviousValue() {
        DiceRoads x = new DiceRoads();
        int[] first = {20, 15, 6, 3, 4};
        for (int setting = 0; setting < 5; setting++) {
            Check.due("set(" + setting + ", 7)", x.set(setting, 7), first[setting]);
            Check.due("set(" + setting + ", 2)", x.set(setting, 2), 7);
            Check.due("count of setting " + setting, x.count(9 + setting), 2);
        }
    }

    private static void promise2SetRanges() {
        DiceRoads x = new DiceRoads();
        int[] least = {0, 1, 1, 1, 1};
        int[] most = {99, 99, 99, 7, 20};
        for (int setting = 0; setting < 5; setting++) {
            Check.due("set below " + setting, x.set(setting, least[setting] - 1), -2);
            Check.due("set above " + setting, x.set(setting, most[setting] + 1), -2);
            Check.due("set far below " + setting, x.set(setting, Integer.MIN_VALUE), -2);
            Check.due("set far above " + setting, x.set(setting, Integer.MAX_VALUE), -2);
        }
        Check.due("errors record nothing", x.count(16), 0);
        for (int setting = 0; setting < 5; setting++) {
            x.set(setting, least[setting]);
            Check.due("least " + setting, x.set(setting, most[setting]), least[setting]);
            Check.due("most " + setting, x.count(9 + setting), most[setting]);
        }
        Check.due("set(-1, 5)", x.set(-1, 5), -2);
        Check.due("set(5, 5)", x.set(5, 5), -2);
        Check.due("set(MIN, 5)", x.set(Integer.MIN_VALUE, 5), -2);
        Check.due("set(MAX, 5)", x.set(Integer.MAX_VALUE, 5), -2);
    }

    private static void promise2SetIsAChange() {
        DiceRoads x = new DiceRoads();
        x.set(DiceRoads.TOLL, 6);
        Check.due("a set that changes nothing is recorded", x.count(16), 1);
        x.set(DiceRoads.TOLL, 9);
        x.undo();
        Check.due("undone set", x.count(11), 6);
    }

    private static void promise3PlayersComeInOrder() {
        DiceRoads x = new DiceRoads();
        for (int i = 0; i < 4; i++) {
            Check.due("player " + i, x.player(10 * i), i);
            Check.due("purse " + i, x.of(i, 0), 10 * i);
            Check.due("square " + i, x.of(i, 1), 0);
            Check.due("players", x.count(1), i + 1);
        }
        Check.due("next", x.count(2), 0);
        Check.due("text", Table.text(x), "oABCD----=----o----=----");
        Check.due("a fifth player", x.player(5), -4);
        Check.due("a fifth player with a wrong purse", x.player(-1), -2);
        Check.due("recorded", x.count(16), 4);
    }

    private static void promise3PlayerRanges() {
        DiceRoads x = new DiceRoads();
        Check.due("player(-1)", x.player(-1), -2);
        Check.due("player(10000)", x.player(10000), -2);
        Check.due("player(MIN)", x.player(Integer.MIN_VALUE), -2);
        Check.due("player(MAX)", x.player(Integer.MAX_VALUE), -2);
        Check.due("none came", x.count(1), 0);
        Check.due("player(0)", x.player(0), 0);
        Check.due("player(9999)", x.player(9999), 1);
        Check.due("coins", x.count(4), 9999);
    }

    private static void promise3PlayerInTheMiddleOfAGame() {
        DiceRoads x = Table.with(50, 50);
        Table.turn(x, 4, 6);
        x.player(70);
        Check.due("next stays", x.count(2), 1);
        Table.turn(x, 4, 6);
        Check.due("the new one is next behind the last one", x.count(2), 2);
        Table.turn(x, 4, 6);
        Check.due("then the first one", x.count(2), 0);
        Check.due("text", Table.text(x), "o----=----oABC----=----");
    }

    private static void promise4Seed() {
        DiceRoads x = Table.with(50);
        Check.due("seed(9999)", x.seed(9999), 1);
        Check.due("seed(0)", x.seed(0), 9999);
        Check.due("seed(-1)", x.seed(-1), -2);
        Check.due("seed(10000)", x.seed(10000), -2);
        Check.due("seed(MIN)", x.seed(Integer.MIN_VALUE), -2);
        Check.due("seed(MAX)", x.seed(Integer.MAX_VALUE), -2);
        Check.due("x", x.count(8), 0);
        // 0, 74, 5624, 28652: the dice 4 and 2, and one more for the road
        x.go(1);
        Check.due("square", x.of(0, 1), 6);
        Check.due("previous x", x.seed(3), 28652);
        x.undo();
        Check.due("undone seed", x.count(8), 28652);
    }
}
