import java.util.function.Supplier;

/** The boundary cases of promises 13 to 15: emptyIn, purseIn, bestSeed. */
public final class WhatIfBoundaryTest {
    private static final int[] FAR = {Integer.MIN_VALUE, -1, 4, 5, Integer.MAX_VALUE};

    public static void main(String[] args) {
        promise13();
        promise14();
        promise15();
        Check.sentence("Promises 13 to 15", "what if; nothing changes", WhatIfBoundaryTest::nothingChanges);
        Check.sentence("Promises 13 to 15", "the bound of turns does not matter",
                WhatIfBoundaryTest::beyondTheBoundOfTurns);
        Check.end();
    }

    // ---- promise 13

    private static void promise13() {
        Check.sentence("Promise 13", "in how many turns (of all players)", () -> {
            DiceRoads x = Table.with(100, 100, 12);
            Table.turn(x, 1, 2, 6);
            Table.rest(x);
            x.seed(Table.seedFor(1, 2));
            Check.due("by its own turn, the first one", x.emptyIn(2), 1);
            DiceRoads y = Table.with(100, 15, 0);
            y.seed(Table.seedFor(5, 5, 1, 2, 6));
            Check.due("by its own turn, the second one", y.emptyIn(1), 2);
            int first = Table.firstEmpty(() -> Table.with(15), 0, 400);
            Check.due("alone", Table.with(15).emptyIn(0), first);
        });
        Check.sentence("Promise 13", "is empty for the first time", () -> {
            DiceRoads x = Table.with(15);
            x.seed(Table.seedFor(1, 2, 6));
            Check.due("by the price of the first turn", x.emptyIn(0), 1);
            x.go(1);
            Check.due("the purse", x.of(0, 0), 0);
            x.set(DiceRoads.WAGE, 99);
            Check.due("now, though a wage comes and it may be empty again", x.emptyIn(0), 0);
            Supplier<DiceRoads> crowded = () -> crowded(20);
            for (int player = 0; player < 3; player++) {
                int first = Table.firstEmpty(crowded, player, 400);
                Check.due("as by turns: player " + player, crowded(20).emptyIn(player), first);
            }
        });
        Check.sentence("Promise 13", "0 if it is now", () -> {
            DiceRoads x = Table.with(0, 1, 9999, 0);
            Check.due("an empty purse", x.emptyIn(0), 0);
            Check.due("the last player's", x.emptyIn(3), 0);
            Check.that("a purse of one coin", x.emptyIn(1) != 0);
            Check.that("a purse of 9999 coins", x.emptyIn(2) != 0);
        });
        Check.sentence("Promise 13", "NONE if it is not within 400.", () -> {
            int first = Table.firstEmpty(() -> slow(0), 1, 700);
            Check.that("there is room before it", first > 402);
            Check.due("in 399", slow(first - 399).emptyIn(1), 399);
            Check.due("in 400", slow(first - 400).emptyIn(1), 400);
            Check.due("in 401", slow(first - 401).emptyIn(1), -6);
            Check.due("in 402", slow(first - 402).emptyIn(1), -6);
            DiceRoads x = Table.with(1);
            x.set(DiceRoads.CLAIM, 7);
            Check.due("never", x.emptyIn(0), -6);
        });
        Check.sentence("Promise 13", "NO_SUCH if there is no such player", () -> {
            DiceRoads x = Table.with(0, 0);
            Check.due("emptyIn(1)", x.emptyIn(1), 0);
            Check.due("emptyIn(2)", x.emptyIn(2), -1);
            Check.due("emptyIn(3)", x.emptyIn(3), -1);
            for (int player : FAR) {
                Check.due("emptyIn(" + player + ")", x.emptyIn(player), -1);
            }
            Check.due("without players", new DiceRoads().emptyIn(0), -1);
        });
    }

    /** A board on which player 1 loses its purse slowly, behind so many turns. */
    private static DiceRoads slow(int played) {
        DiceRoads x = Table.with(9999, 700);
        x.set(DiceRoads.WAGE, 0);
        x.set(DiceRoads.TOLL, 1);
        Table.advance(x, played);
        return x;
    }

    /** A board with debts, behind so many turns. */
    private static DiceRoads crowded(int played) {
        DiceRoads x = Table.with(60, 40, 5);
        x.set(DiceRoads.TOLL, 20);
        Table.advance(x, played);
        return x;
    }

    // ---- promise 14

    private static void promise14() {
        Check.sentence("Promise 14", "turns: 1 to 99", () -> {
            for (int turns : new int[] {1, 2, 98, 99}) {
                for (int player = 0; player < 3; player++) {
                    DiceRoads x = crowded(10);
                    int purse = x.purseIn(player, turns);
                    x.go(turns);
                    Check.due("purseIn(" + player + ", " + turns + ")", purse, x.of(player, 0));
                }
            }
        });
        Check.sentence("Promise 14", "the purse that a player would have behind some turns: also an empty one", () -> {
            DiceRoads x = Table.with(15, 9999);
            x.seed(Table.seedFor(1, 2, 6));
            Check.due("an empty one", x.purseIn(0, 1), 0);
            Check.due("another one's turn", x.purseIn(1, 1), 9999);
            x.set(DiceRoads.PRICE, 14);
            Check.due("a coin", x.purseIn(0, 1), 1);
        });
        Check.sentence("Promise 14", "NO_SUCH if there is no such player", () -> {
            DiceRoads x = Table.with(5, 5);
            Check.that("purseIn(1, 1)", x.purseIn(1, 1) >= 0);
            Check.due("purseIn(2, 1)", x.purseIn(2, 1), -1);
            Check.due("purseIn(2, 99)", x.purseIn(2, 99), -1);
            for (int player : FAR) {
                Check.due("purseIn(" + player + ", 1)", x.purseIn(player, 1), -1);
            }
            Check.due("without players", new DiceRoads().purseIn(0, 1), -1);
        });
        Check.sentence("Promise 14", "BAD_VALUE if turns is out of range.", () -> {
            DiceRoads x = Table.with(5, 5);
            for (int turns : new int[] {Integer.MIN_VALUE, -1, 0, 100, Integer.MAX_VALUE}) {
                Check.due("purseIn(1, " + turns + ")", x.purseIn(1, turns), -2);
            }
        });
    }

    // ---- promise 15

    private static int wealth(DiceRoads x, int seed, int player, int turns) {
        x.seed(seed);
        x.go(turns);
        return x.of(player, 0) + x.of(player, 4) - x.of(player, 3);
    }

    /** The wealth by each seed from 0 to 50. */
    private static int[] wealths(int played, int player, int turns) {
        int[] wealths = new int[51];
        for (int seed = 0; seed <= 50; seed++) {
            wealths[seed] = wealth(crowded(played), seed, player, turns);
        }
        return wealths;
    }

    /** Whether this seed, of 0 to 49, brings more than all others. */
    private static boolean isBestAlone(int[] wealths, int best) {
        for (int seed = 0; seed < 50; seed++) {
            if (seed != best && wealths[seed] >= wealths[best]) {
                return false;
            }
        }
        return true;
    }

    private static void promise15() {
        Check.sentence("Promise 15", "Finds the seed, 0 to 49", WhatIfBoundaryTest::seedsFrom0To49);
        Check.sentence("Promise 15", "with which a player would have the most coins: also if that is below 0",
                WhatIfBoundaryTest::theMostIsBelowZero);
        Check.sentence("Promise 15", "its purse, and what is owed to it, less what it owes",
                WhatIfBoundaryTest::debtsCount);
        Check.sentence("Promise 15", "of several the least one.", WhatIfBoundaryTest::theLeastOfSeveral);
        Check.sentence("Promise 15", "turns: 1 to 60", () -> {
            for (int turns : new int[] {1, 2, 59, 60}) {
                int[] wealths = wealths(12, 1, turns);
                int best = 0;
                for (int seed = 1; seed < 50; seed++) {
                    best = wealths[seed] > wealths[best] ? seed : best;
                }
                Check.due("bestSeed(1, " + turns + ")", crowded(12).bestSeed(1, turns), best);
            }
        });
        Check.sentence("Promise 15", "NO_SUCH if there is no such player", () -> {
            DiceRoads x = Table.with(5, 5);
            Check.that("bestSeed(1, 1)", x.bestSeed(1, 1) >= 0);
            Check.due("bestSeed(2, 1)", x.bestSeed(2, 1), -1);
            Check.due("bestSeed(2, 60)", x.bestSeed(2, 60), -1);
            for (int player : FAR) {
                Check.due("bestSeed(" + player + ", 1)", x.bestSeed(player, 1), -1);
            }
            Check.due("without players", new DiceRoads().bestSeed(0, 1), -1);
        });
        Check.sentence("Promise 15", "BAD_VALUE if turns is out of range.", () -> {
            DiceRoads x = Table.with(5, 5);
            for (int turns : new int[] {Integer.MIN_VALUE, -1, 0, 61, 99, Integer.MAX_VALUE}) {
                Check.due("bestSeed(1, " + turns + ")", x.bestSeed(1, turns), -2);
            }
        });
    }

    private static void seedsFrom0To49() {
        Check.that("0 is best", isBestAlone(wealths(2, 0, 12), 0));
        Check.due("0", crowded(2).bestSeed(0, 12), 0);
        Check.that("49 is best", isBestAlone(wealths(8, 2, 20), 49));
        Check.due("49", crowded(8).bestSeed(2, 20), 49);
        int[] wealths = wealths(4, 0, 7);
        Check.that("50 would be better than 18", isBestAlone(wealths, 18) && wealths[50] > wealths[18]);
        Check.due("18", crowded(4).bestSeed(0, 7), 18);
    }

    private static void theMostIsBelowZero() {
        int[] wealths = wealths(7, 2, 56);
        Check.that("17 is best", isBestAlone(wealths, 17) && wealths[17] < 0);
        Check.due("17", crowded(7).bestSeed(2, 56), 17);
    }

    private static void debtsCount() {
        // B has no coin, and A's road 6 is all that can be owed for: 0 throws 4 and 2, 1 throws 1 and 3
        DiceRoads x = Table.with(100, 0);
        Table.turn(x, 1, 5, 6);
        x.save(0);
        Check.due("0 brings B to the road", wealth(x, 0, 1, 1), -12);
        x.restore(0);
        Check.due("1 does not", wealth(x, 1, 1, 1), 0);
        x.restore(0);
        Check.due("B's best", x.bestSeed(1, 1), 1);
        Check.due("A's best", x.bestSeed(0, 1), 0);
        // by the purses alone, all seeds are the same
        DiceRoads y = Table.with(15, 0);
        Table.turn(y, 1, 2, 6);
        int seed = y.bestSeed(0, 1);
        y.seed(seed);
        y.go(1);
        Check.due("A's best brings B to the road 3", y.of(1, 1), 3);
        Check.due("A's purse", y.of(0, 0), 0);
        Check.due("owed to A", y.of(0, 4), 12);
    }

    private static void theLeastOfSeveral() {
        DiceRoads x = Table.with(0, 0);
        Check.due("all are the same", x.bestSeed(0, 1), 0);
        Check.due("all are the same for another one", x.bestSeed(1, 1), 0);
        int[][] ties = {{16, 53, 2, 48}, {1, 10, 0, 13}};
        for (int[] tie : ties) {
            int[] wealths = wealths(tie[0], tie[2], tie[1]);
            for (int seed = 0; seed < 50; seed++) {
                boolean isBest = seed == tie[3] || seed == 49;
                Check.that(tie[3] + " and 49 are best", wealths[seed] < wealths[49] != isBest);
            }
            Check.due("of two", crowded(tie[0]).bestSeed(tie[2], tie[1]), tie[3]);
        }
    }

    // ---- all of them

    private static void nothingChanges() {
        DiceRoads x = crowded(40);
        x.save(0);
        Table.write(x, "t1;c");
        String before = Table.all(x);
        int changes = x.count(16);
        x.emptyIn(0);
        x.purseIn(1, 99);
        x.bestSeed(2, 60);
        x.chain(0, 0);
        Check.due("the board", Table.all(x), before);
        Check.due("the history", x.count(16), changes);
        Check.due("the pad", x.fault(), 4);
        Check.due("the slot", x.restore(0), 3);
        Check.due("what was saved", Table.all(x), before);
    }

    private static void beyondTheBoundOfTurns() {
        DiceRoads old = quiet();
        Table.advance(old, 9999);
        DiceRoads young = quiet();
        Table.send(young, 0, old.of(0, 1), 0);
        toBeCrowded(old);
        toBeCrowded(young);
        Check.due("go(1) is not possible", old.go(1), -5);
        Check.due("the same board", Table.text(old), Table.text(young));
        for (int player = 0; player < 3; player++) {
            Check.due("emptyIn(" + player + ")", old.emptyIn(player), young.emptyIn(player));
            for (int turns : new int[] {1, 2, 60, 99}) {
                Check.due("purseIn(" + player + ", " + turns + ")", old.purseIn(player, turns),
                        young.purseIn(player, turns));
            }
            Check.due("bestSeed(" + player + ", 1)", old.bestSeed(player, 1), young.bestSeed(player, 1));
            Check.due("bestSeed(" + player + ", 60)", old.bestSeed(player, 60), young.bestSeed(player, 60));
        }
        Check.that("a purse is empty some time", old.emptyIn(2) > 0);
        Check.that("turns bring coins", old.purseIn(0, 99) != old.of(0, 0));
        Check.that("a seed matters", old.bestSeed(0, 60) > 0);
        Check.due("still at the bound", old.count(0), 9999);
    }

    /** A board on which a player goes around without any coin that comes or goes. */
    private static DiceRoads quiet() {
        DiceRoads x = Table.with(60);
        x.set(DiceRoads.WAGE, 0);
        x.set(DiceRoads.CLAIM, 7);
        return x;
    }

    private static void toBeCrowded(DiceRoads x) {
        x.player(40);
        x.player(5);
        x.set(DiceRoads.WAGE, 20);
        x.set(DiceRoads.CLAIM, 3);
        x.set(DiceRoads.TOLL, 20);
        x.seed(77);
    }
}
