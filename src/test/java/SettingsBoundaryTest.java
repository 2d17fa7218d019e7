/** The boundary cases of the settings, and of promises 1 to 4: a new object, set, player, seed. */
public final class SettingsBoundaryTest {
    private static final int[] FAR = {Integer.MIN_VALUE, -1000, 1000, 65536, Integer.MAX_VALUE};

    public static void main(String[] args) {
        settings();
        promise1();
        promise2();
        promise3();
        promise4();
        Check.end();
    }

    private static void settings() {
        Check.sentence("Settings", "WAGE (0 to 99; 20)", () -> range(0, 0, 99, 20));
        Check.sentence("Settings", "PRICE (1 to 99; 15)", () -> range(1, 1, 99, 15));
        Check.sentence("Settings", "TOLL (1 to 99; 6)", () -> range(2, 1, 99, 6));
        Check.sentence("Settings", "CLAIM (1 to 7; 3)", () -> range(3, 1, 7, 3));
        Check.sentence("Settings", "DUE (1 to 20; 4)", () -> range(4, 1, 20, 4));
        Check.sentence("Settings", "WAGE: coins for each time around", SettingsBoundaryTest::leastAndMostWage);
        Check.sentence("Settings", "PRICE: coins for which a square is claimed",
                SettingsBoundaryTest::leastAndMostPrice);
        Check.sentence("Settings", "TOLL", SettingsBoundaryTest::leastAndMostToll);
        Check.sentence("Settings", "CLAIM: the least die by which a square is claimed",
                SettingsBoundaryTest::leastAndMostClaim);
        Check.sentence("Settings", "DUE: turns of a debtor behind which a debt costs a square",
                SettingsBoundaryTest::leastAndMostDue);
    }

    private static void range(int setting, int least, int most, int first) {
        DiceRoads x = new DiceRoads();
        Check.due("count of a new object", x.count(9 + setting), first);
        Check.due("set too small", x.set(setting, least - 1), -2);
        Check.due("set too large", x.set(setting, most + 1), -2);
        Check.due("the first value stays", x.count(9 + setting), first);
        Check.due("set to the least", x.set(setting, least), first);
        Check.due("the least", x.count(9 + setting), least);
        Check.due("set too small", x.set(setting, least - 1), -2);
        Check.due("set to the most", x.set(setting, most), least);
        Check.due("the most", x.count(9 + setting), most);
        Check.due("set too large", x.set(setting, most + 1), -2);
        Check.due("the most stays", x.count(9 + setting), most);
        for (int value : FAR) {
            Check.due("set to " + value, x.set(setting, value), -2);
        }
    }

    private static void leastAndMostWage() {
        for (int wage : new int[] {0, 1, 99}) {
            DiceRoads x = Table.with(5);
            x.set(DiceRoads.WAGE, wage);
            Table.restAll(x, 2);
            Check.due("once around: the purse", x.of(0, 0), 5 + wage);
            Check.due("once around: the wages", x.count(7), wage);
            Table.restAll(x, 2);
            Check.due("twice around: the purse", x.of(0, 0), 5 + 2 * wage);
            Check.due("twice around: the wages", x.count(7), 2 * wage);
        }
    }

    private static void leastAndMostPrice() {
        for (int price : new int[] {1, 99}) {
            DiceRoads x = Table.with(price, price - 1);
            x.set(DiceRoads.PRICE, price);
            Table.turn(x, 1, 2, 6);
            Table.turn(x, 1, 1, 6);
            Check.due("a purse of " + price, x.of(0, 2), 1 << 3);
            Check.due("is empty then", x.of(0, 0), 0);
            Check.due("a purse below " + price, x.of(1, 2), 0);
            Check.due("is as it was", x.of(1, 0), price - 1);
            Check.due("paid to nobody", x.count(6), price);
        }
    }

    private static void leastAndMostToll() {
        for (int toll : new int[] {1, 99}) {
            DiceRoads x = Table.with(15, 500);
            x.set(DiceRoads.TOLL, toll);
            Table.turn(x, 1, 2, 6);
            Check.due("the toll of a road", x.ofSquare(3, 3), 2 * toll);
            Check.due("is paid", Table.turn(x, 1, 2), 2 * toll);
            Check.due("to the owner", x.of(0, 0), 2 * toll);
        }
    }

    private static void leastAndMostClaim() {
        for (int claim = 1; claim <= 7; claim++) {
            for (int die = 1; die <= 6; die++) {
                DiceRoads x = Table.with(15);
                x.set(DiceRoads.CLAIM, claim);
                Table.turn(x, 1, 2, die);
                Check.due("CLAIM " + claim + ", a die of " + die, x.of(0, 2), die >= claim ? 1 << 3 : 0);
            }
        }
    }

    private static void leastAndMostDue() {
        for (int due : new int[] {1, 2, 4, 19, 20}) {
            DiceRoads x = Table.with(15, 15);
            x.set(DiceRoads.WAGE, 0);
            x.set(DiceRoads.DUE, due);
            Table.turn(x, 1, 3, 6);
            Table.turn(x, 1, 1, 6);
            Table.send(x, 1, 4, 0);
            for (int age = 1; age <= due; age++) {
                Check.due("DUE " + due + ": the age", x.owes(1, 0, 1), age);
                Check.due("DUE " + due + ": nothing is lost at the age " + age, x.of(1, 8), 0);
                Table.rest(x);
                Table.rest(x);
            }
            Check.due("DUE " + due + ": behind it, a square is lost", x.of(1, 8), 1);
            Check.due("DUE " + due + ": then nothing is owed", x.owes(1, 0, 0), 0);
        }
    }

    private static void promise1() {
        Check.sentence("Promise 1", "Creates a board without players.", () -> {
            DiceRoads x = new DiceRoads();
            Check.due("players", x.count(1), 0);
            Check.due("the player who is next", x.count(2), -6);
            Check.due("of(0, 0)", x.of(0, 0), -1);
            Check.due("clear(0)", x.clear(0), -1);
            Check.due("emptyIn(0)", x.emptyIn(0), -1);
            Check.due("go(1)", x.go(1), -5);
            Check.due("save(0)", x.save(0), 0);
            Check.due("restore(0)", x.restore(0), 0);
            Check.due("the text of the board", Table.text(x), "o----=----o----=----");
            for (int square = 0; square < 20; square++) {
                Check.due("players on " + square, x.ofSquare(square, 4), 0);
            }
        });
        Check.sentence("Promise 1", "Creates a board: each object has its own one", () -> {
            DiceRoads x = Table.with(5, 5);
            x.set(DiceRoads.TOLL, 9);
            DiceRoads y = new DiceRoads();
            Check.due("players of the other one", y.count(1), 0);
            Check.due("TOLL of the other one", y.count(11), 6);
            y.player(7);
            Check.due("players", x.count(1), 2);
            Check.due("purse", x.of(0, 0), 5);
        });
    }

    private static void promise2() {
        Check.sentence("Promise 2", "Returns the previous value", () -> {
            DiceRoads x = new DiceRoads();
            Check.due("the first value", x.set(DiceRoads.WAGE, 0), 20);
            Check.due("the least", x.set(DiceRoads.WAGE, 99), 0);
            Check.due("the most", x.set(DiceRoads.WAGE, 99), 99);
            Check.due("behind an error", x.set(DiceRoads.WAGE, 100), -2);
            Check.due("the one before the error", x.set(DiceRoads.WAGE, 5), 99);
        });
        Check.sentence("Promise 2", "BAD_VALUE if there is no such setting", () -> {
            DiceRoads x = new DiceRoads();
            Check.due("set(-1, 5)", x.set(-1, 5), -2);
            Check.due("set(5, 5)", x.set(5, 5), -2);
            for (int setting : FAR) {
                Check.due("set(" + setting + ", 5)", x.set(setting, 5), -2);
            }
            Check.due("the last one", x.set(4, 5), 4);
        });
        Check.sentence("Promise 2", "BAD_VALUE if the value is out of its range", () -> {
            // each value is inside of another setting's range
            DiceRoads x = new DiceRoads();
            Check.due("PRICE 0, as WAGE may be", x.set(DiceRoads.PRICE, 0), -2);
            Check.due("TOLL 0, as WAGE may be", x.set(DiceRoads.TOLL, 0), -2);
            Check.due("CLAIM 8, as TOLL may be", x.set(DiceRoads.CLAIM, 8), -2);
            Check.due("DUE 21, as TOLL may be", x.set(DiceRoads.DUE, 21), -2);
            Check.due("DUE 0, as WAGE may be", x.set(DiceRoads.DUE, 0), -2);
            Check.due("CLAIM 0, as WAGE may be", x.set(DiceRoads.CLAIM, 0), -2);
            Check.due("changes", x.count(16), 0);
        });
        Check.sentence("Promise 2", "This is a change.", () -> {
            DiceRoads x = new DiceRoads();
            x.set(DiceRoads.CLAIM, 3);
            Check.due("recorded though nothing is different", x.count(16), 1);
            x.set(DiceRoads.CLAIM, 7);
            Check.due("undo()", x.undo(), 1);
            Check.due("CLAIM", x.count(12), 3);
        });
    }

    private static void promise3() {
        Check.sentence("Promise 3", "A player comes, at the square 0.", () -> {
            DiceRoads x = Table.with(5, 5);
            Table.restAll(x, 1);
            x.player(5);
            Check.due("its square", x.of(2, 1), 0);
            Check.due("not with the others", x.ofSquare(10, 4), 3);
            Check.due("alone", x.ofSquare(0, 4), 4);
        });
        Check.sentence("Promise 3", "purse: 0 to 9999", () -> {
            DiceRoads x = new DiceRoads();
            Check.due("player(0)", x.player(0), 0);
            Check.due("its purse", x.of(0, 0), 0);
            Check.due("player(9999)", x.player(9999), 1);
            Check.due("its purse", x.of(1, 0), 9999);
        });
        Check.sentence("Promise 3", "BAD_VALUE if purse is out of range", () -> {
            DiceRoads x = new DiceRoads();
            for (int purse : new int[] {-1, 10000, Integer.MIN_VALUE, Integer.MAX_VALUE}) {
                Check.due("player(" + purse + ")", x.player(purse), -2);
            }
            Check.due("nobody came", x.count(1), 0);
            Check.due("nothing is recorded", x.count(16), 0);
        });
        Check.sentence("Promise 3", "Returns its number; TOO_MANY if there are 4 players.", () -> {
            DiceRoads x = new DiceRoads();
            for (int number = 0; number < 4; number++) {
                Check.due("player " + number, x.player(5), number);
            }
            Check.due("one more", x.player(5), -4);
            Check.due("one more of the least purse", x.player(0), -4);
            Check.due("one more of the most", x.player(9999), -4);
            Check.due("players", x.count(1), 4);
            Check.due("recorded", x.count(16), 4);
            x.undo();
            Check.due("room again", x.player(6), 3);
        });
        Check.sentence("Promise 3", "This is a change.", () -> {
            DiceRoads x = Table.with(5);
            Check.due("undo()", x.undo(), 0);
            Check.due("players", x.count(1), 0);
            Check.due("coins", x.count(4), 0);
            Check.due("the text", x.count(14), 20);
        });
    }

    private static void promise4() {
        Check.sentence("Promise 4", "seed: 0 to 9999", () -> {
            DiceRoads x = new DiceRoads();
            Check.due("seed(0)", x.seed(0), 1);
            Check.due("x", x.count(8), 0);
            Check.due("seed(9999)", x.seed(9999), 0);
            Check.due("x", x.count(8), 9999);
        });
        Check.sentence("Promise 4", "BAD_VALUE if seed is out of range", () -> {
            DiceRoads x = new DiceRoads();
            for (int seed : new int[] {-1, 10000, 65536, Integer.MIN_VALUE, Integer.MAX_VALUE}) {
                Check.due("seed(" + seed + ")", x.seed(seed), -2);
            }
            Check.due("x", x.count(8), 1);
            Check.due("nothing is recorded", x.count(16), 0);
        });
        Check.sentence("Promise 4", "Returns the previous x", () -> {
            DiceRoads x = Table.with(5);
            Table.turn(x, 5, 5);
            int drawn = x.count(8);
            Check.that("x is above what a seed can be", drawn > 9999);
            Check.due("seed(5)", x.seed(5), drawn);
            Check.due("seed(5) again", x.seed(5), 5);
        });
        Check.sentence("Promise 4", "This is a change.", () -> {
            DiceRoads x = new DiceRoads();
            x.seed(1);
            Check.due("recorded though nothing is different", x.count(16), 1);
            x.seed(0);
            Check.due("undo()", x.undo(), 1);
            Check.due("x", x.count(8), 1);
        });
    }
}
