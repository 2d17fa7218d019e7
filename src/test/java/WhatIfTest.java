/** Promises 13 to 15: emptyIn, purseIn, bestSeed. */
public final class WhatIfTest {
    public static void main(String[] args) {
        promise13EmptyNow();
        promise13EmptyLater();
        promise13Within400();
        promise13Errors();
        promise14PurseIn();
        promise14Errors();
        promise15BestSeed();
        promise15LeastOfSeveral();
        promise15CountsDebts();
        promise15Errors();
        theBoundOfTurnsDoesNotMatter();
        nothingChanges();
        Check.end();
    }

    private static void promise13EmptyNow() {
        DiceRoads x = Table.with(0, 3);
        Check.due("empty now", x.emptyIn(0), 0);
    }

    private static void promise13EmptyLater() {
        DiceRoads x = Table.with(100, 15, 12);
        x.seed(Table.seedFor(5, 5, 1, 2, 6));
        Check.due("by the price in the second turn", x.emptyIn(1), 2);
        x.go(2);
        Check.due("then it is", x.of(1, 0), 0);
        x.seed(Table.seedFor(1, 2));
        Check.due("by the toll", x.emptyIn(2), 1);
        Check.due("one turn before the wage", x.go(1), 12);
        Check.due("empty", x.emptyIn(2), 0);
    }

    private static void promise13Within400() {
        DiceRoads x = Table.with(500);
        x.set(DiceRoads.CLAIM, 7);
        Check.due("never", x.emptyIn(0), -6);
        Check.due("as the turns say", farAway().emptyIn(0), Table.firstEmpty(WhatIfTest::farAway, 0, 400));
        int first = Table.firstEmpty(WhatIfTest::longLasting, 1, 700);
        Check.that("the purse lasts for more than 401 turns", first > 401);
        Check.due("exactly 400", longLasting(first - 400).emptyIn(1), 400);
        Check.due("401 is too far", longLasting(first - 401).emptyIn(1), -6);
    }

    private static DiceRoads farAway() {
        DiceRoads x = Table.with(60, 40, 5);
        x.set(DiceRoads.WAGE, 3);
        return x;
    }

    /** A board on which player 1 loses its purse slowly. */
    private static DiceRoads longLasting() {
        DiceRoads x = Table.with(9999, 700);
        x.set(DiceRoads.WAGE, 0);
        x.set(DiceRoads.TOLL, 1);
        return x;
    }

    private static DiceRoads longLasting(int played) {
        DiceRoads x = longLasting();
        Table.advance(x, played);
        return x;
    }

    private static void promise13Errors() {
        DiceRoads x = Table.with(5);
        int[] none = {-1, 1, 4, Integer.MIN_VALUE, Integer.MAX_VALUE};
        for (int player : none) {
            Check.due("emptyIn(" + player + ")", x.emptyIn(player), -1);
        }
        Check.due("without players", new DiceRoads().emptyIn(0), -1);
    }

    private static void promise14PurseIn() {
        for (int turns = 1; turns <= 99; turns++) {
            DiceRoads x = Table.with(60, 40, 5);
            int first = x.purseIn(0, turns);
            int last = x.purseIn(2, turns);
            x.go(turns);
            Check.due("purseIn(0, " + turns + ")", first, x.of(0, 0));
            Check.due("purseIn(2, " + turns + ")", last, x.of(2, 0));
        }
    }

    private static void promise14Errors() {
        DiceRoads x = Table.with(5, 5);
        Check.due("purseIn(-1, 0)", x.purseIn(-1, 0), -1);
        Check.due("purseIn(2, 1)", x.purseIn(2, 1), -1);
        Check.due("purseIn(2, 0)", x.purseIn(2, 0), -1);
        Check.due("purseIn(MAX, 1)", x.purseIn(Integer.MAX_VALUE, 1), -1);
        Check.due("purseIn(0, 0)", x.purseIn(0, 0), -2);
        Check.due("purseIn(0, 100)", x.purseIn(0, 100), -2);
        Check.due("purseIn(0, MIN)", x.purseIn(0, Integer.MIN_VALUE), -2);
        Check.due("purseIn(0, MAX)", x.purseIn(0, Integer.MAX_VALUE), -2);
        Check.that("purseIn(0, 99)", x.purseIn(0, 99) >= 0);
    }

    private static void promise15BestSeed() {
        boolean lastIsBest = false;
        boolean nextIsBetter = false;
        for (int turns = 1; turns <= 60; turns++) {
            for (int player = 0; player < 3; player++) {
                int played = turns % 2 == 0 ? 28 : 34;
                int best = bestByPlaying(played, player, turns);
                Check.due("bestSeed(" + player + ", " + turns + ")", crowded(played).bestSeed(player, turns), best);
                lastIsBest |= best == 49;
                int next = wealthBehind(played, 50, player, turns);
                nextIsBetter |= next > wealthBehind(played, best, player, turns);
            }
        }
        Check.that("the seed 49 is tried", lastIsBest);
        Check.that("the seed 50 would be better once", nextIsBetter);
    }

    /** A board with tolls and debts. */
    private static DiceRoads crowded(int played) {
        DiceRoads x = Table.with(60, 10, 5);
        x.set(DiceRoads.TOLL, 30);
        x.go(played);
        return x;
    }

    private static int bestByPlaying(int played, int player, int turns) {
        int best = 0;
        for (int seed = 1; seed < 50; seed++) {
            if (wealthBehind(played, seed, player, turns) > wealthBehind(played, best, player, turns)) {
                best = seed;
            }
        }
        return best;
    }

    private static int wealthBehind(int played, int seed, int player, int turns) {
        DiceRoads x = crowded(played);
        x.seed(seed);
        x.go(turns);
        return x.of(player, 0) + x.of(player, 4) - x.of(player, 3);
    }

    private static void promise15LeastOfSeveral() {
        DiceRoads x = Table.with(0, 0);
        Check.due("all the same", x.bestSeed(1, 1), 0);
        Check.due("nothing to get yet", x.bestSeed(0, 1), 0);
    }

    private static void promise15CountsDebts() {
        // B has nothing, so that it can but owe: the best seed is the first one that does not bring it to A's road
        DiceRoads x = Table.with(100, 0);
        Table.turn(x, 1, 5, 6);
        int best = x.bestSeed(1, 1);
        Check.due("0 throws 4 and 2, to the road 6", best, 1);
        Check.due("for A the toll counts though it is owed", x.bestSeed(0, 1), 0);
        x.seed(0);
        x.go(1);
        Check.due("the toll", x.owes(1, 0, 0), 12);
    }

    private static void promise15Errors() {
        DiceRoads x = Table.with(5, 5);
        Check.due("bestSeed(-1, 0)", x.bestSeed(-1, 0), -1);
        Check.due("bestSeed(2, 1)", x.bestSeed(2, 1), -1);
        Check.due("bestSeed(2, 0)", x.bestSeed(2, 0), -1);
        Check.due("bestSeed(MIN, 1)", x.bestSeed(Integer.MIN_VALUE, 1), -1);
        Check.due("bestSeed(0, 0)", x.bestSeed(0, 0), -2);
        Check.due("bestSeed(0, 61)", x.bestSeed(0, 61), -2);
        Check.due("bestSeed(0, MIN)", x.bestSeed(0, Integer.MIN_VALUE), -2);
        Check.due("bestSeed(0, MAX)", x.bestSeed(0, Integer.MAX_VALUE), -2);
        Check.that("bestSeed(0, 60)", x.bestSeed(0, 60) >= 0);
    }

    private static void theBoundOfTurnsDoesNotMatter() {
        DiceRoads x = Table.with(100);
        x.set(DiceRoads.CLAIM, 7);
        x.set(DiceRoads.WAGE, 99);
        for (int i = 0; i < 101; i++) {
            x.go(99);
        }
        Check.due("all turns done", x.count(0), 9999);
        Check.that("wages come in all the same", x.purseIn(0, 99) >= x.of(0, 0) + 99 * 20);
        x.seed(0);
        Check.that("the best one gets a wage", x.bestSeed(0, 2) >= 0);
        Check.due("never empty", x.emptyIn(0), -6);
        Check.due("still 9999", x.count(0), 9999);
    }

    private static void nothingChanges() {
        DiceRoads x = crowded(40);
        String before = Table.all(x);
        int changes = x.count(16);
        x.emptyIn(0);
        x.emptyIn(2);
        x.purseIn(1, 99);
        x.bestSeed(2, 60);
        x.chain(0, 1);
        Check.due("the same board", Table.all(x), before);
        Check.due("no change recorded", x.count(16), changes);
    }
}
