/** The boundary cases of promises 6, 9 and 12: clear, owes, chain. */
public final class DebtsBoundaryTest {
    private static final int[] FAR = {Integer.MIN_VALUE, -4, -1, 4, 5, 16, Integer.MAX_VALUE};
    private static final int[][] NO_DEBT = {{0, 0, 0, 0}, {0, 0, 0, 0}, {0, 0, 0, 0}, {0, 0, 0, 0}};

    public static void main(String[] args) {
        promise6();
        promise9();
        promise12();
        Check.end();
    }

    private static void promise6() {
        Check.sentence("Promise 6", "as long as there is a ring of debts", DebtsBoundaryTest::noRing);
        Check.sentence("Promise 6", "as long as there is a ring: all of them are cleared",
                DebtsBoundaryTest::allRings);
        Check.sentence("Promise 6", "from the player to others and back to it", DebtsBoundaryTest::onlyItsOwnRings);
        Check.sentence("Promise 6", "each with a debt to the next one: from two players to four",
                DebtsBoundaryTest::ringsOfTwoToFour);
        Check.sentence("Promise 6", "the one with the fewest players", DebtsBoundaryTest::theFewestPlayers);
        Check.sentence("Promise 6", "of several the one with the lowest numbers from the player on",
                DebtsBoundaryTest::theLowestNumbers);
        Check.sentence("Promise 6", "each debt on it becomes less by the least one on it.",
                DebtsBoundaryTest::lessByTheLeast);
        Check.sentence("Promise 6", "each debt on it becomes less: also one of one coin",
                DebtsBoundaryTest::ringOfOneCoinDebts);
        Check.sentence("Promise 6", "This is a change.", DebtsBoundaryTest::clearIsAChange);
        Check.sentence("Promise 6", "Returns by how many coins the debts of the player become less, together",
                DebtsBoundaryTest::coinsTogether);
        Check.sentence("Promise 6", "NO_SUCH if there is no such player.", DebtsBoundaryTest::clearOfNobody);
    }

    private static void noRing() {
        DiceRoads alone = Table.with(5);
        Check.due("one player: clear(0)", alone.clear(0), 0);
        DiceRoads none = Table.with(5, 5, 5, 5);
        for (int player = 0; player < 4; player++) {
            Check.due("no debts: clear(" + player + ")", none.clear(player), 0);
        }
        int[][] coins = {{0, 2, 2, 2}, {0, 0, 2, 2}, {0, 0, 0, 2}, {0, 0, 0, 0}};
        DiceRoads x = Debtors.owing(coins);
        for (int player = 0; player < 4; player++) {
            Check.due("six debts, no ring: clear(" + player + ")", x.clear(player), 0);
        }
        Debtors.debtsAre("six debts, no ring", x, coins);
    }

    private static void allRings() {
        int[][] coins = {{0, 4, 6, 8}, {2, 0, 0, 0}, {10, 0, 0, 0}, {8, 0, 0, 0}};
        DiceRoads x = Debtors.owing(coins);
        Check.due("three rings: clear(0)", x.clear(0), 2 + 6 + 8);
        Debtors.debtsAre("three rings", x, new int[][] {{0, 2, 0, 0}, {0, 0, 0, 0}, {4, 0, 0, 0}, {0, 0, 0, 0}});
        Check.due("no ring is left", x.clear(0), 0);
        int[][] all = {{0, 2, 2, 2}, {2, 0, 2, 2}, {2, 2, 0, 2}, {2, 2, 2, 0}};
        DiceRoads y = Debtors.owing(all);
        Check.due("everybody owes everybody: clear(3)", y.clear(3), 6);
        Debtors.debtsAre("everybody owed everybody", y,
                new int[][] {{0, 2, 2, 0}, {2, 0, 2, 0}, {2, 2, 0, 0}, {0, 0, 0, 0}});
        Check.due("clear(0)", y.clear(0), 4);
        Check.due("clear(1)", y.clear(1), 2);
        Debtors.debtsAre("in the end", y, NO_DEBT);
    }

    private static void onlyItsOwnRings() {
        int[][] coins = {{0, 10, 0, 0}, {0, 0, 12, 0}, {0, 14, 0, 0}, {0, 0, 2, 0}};
        DiceRoads x = Debtors.owing(coins);
        Check.due("a debtor of the ring: clear(0)", x.clear(0), 0);
        Check.due("another one: clear(3)", x.clear(3), 0);
        Debtors.debtsAre("the ring stays", x, coins);
        Check.due("one on the ring: clear(1)", x.clear(1), 12);
    }

    private static void ringsOfTwoToFour() {
        int[][] two = {{0, 0, 0, 8}, {0, 0, 0, 0}, {0, 0, 0, 0}, {6, 0, 0, 0}};
        int[][] three = {{0, 0, 8, 0}, {0, 0, 0, 0}, {0, 0, 0, 6}, {10, 0, 0, 0}};
        int[][] four = {{0, 0, 8, 0}, {6, 0, 0, 0}, {0, 0, 0, 12}, {0, 10, 0, 0}};
        for (int player : new int[] {0, 3}) {
            Check.due("two: clear(" + player + ")", Debtors.owing(two).clear(player), 6);
            Check.due("three: clear(" + player + ")", Debtors.owing(three).clear(player), 6);
            Check.due("four: clear(" + player + ")", Debtors.owing(four).clear(player), 6);
        }
        DiceRoads x = Debtors.owing(four);
        x.clear(2);
        Debtors.debtsAre("four", x, new int[][] {{0, 0, 2, 0}, {0, 0, 0, 0}, {0, 0, 0, 6}, {0, 4, 0, 0}});
    }

    private static void theFewestPlayers() {
        // by the numbers, the rings of more players would come first
        DiceRoads x = Debtors.owing(new int[][] {{0, 4, 8, 0}, {0, 0, 6, 0}, {0, 0, 0, 10}, {12, 0, 0, 0}});
        Check.due("three before four: clear(0)", x.clear(0), 10);
        Debtors.debtsAre("three before four", x,
                new int[][] {{0, 2, 0, 0}, {0, 0, 4, 0}, {0, 0, 0, 0}, {2, 0, 0, 0}});
        DiceRoads y = Debtors.owing(new int[][] {{0, 4, 8, 0}, {0, 0, 6, 0}, {10, 0, 0, 0}, {0, 0, 0, 0}});
        Check.due("two before three: clear(0)", y.clear(0), 10);
        Debtors.debtsAre("two before three", y,
                new int[][] {{0, 2, 0, 0}, {0, 0, 4, 0}, {0, 0, 0, 0}, {0, 0, 0, 0}});
        DiceRoads z = Debtors.owing(new int[][] {{0, 4, 0, 8}, {0, 0, 6, 0}, {0, 0, 0, 6}, {10, 0, 0, 0}});
        Check.due("two before four: clear(0)", z.clear(0), 10);
        Debtors.debtsAre("two before four", z,
                new int[][] {{0, 2, 0, 0}, {0, 0, 4, 0}, {0, 0, 0, 4}, {0, 0, 0, 0}});
    }

    private static void theLowestNumbers() {
        DiceRoads x = Debtors.owing(new int[][] {{0, 6, 20, 0}, {0, 0, 0, 10}, {0, 0, 0, 20}, {8, 0, 0, 0}});
        Check.due("0, 1, 3 before 0, 2, 3: clear(0)", x.clear(0), 8);
        Debtors.debtsAre("0, 1, 3 before 0, 2, 3", x,
                new int[][] {{0, 0, 18, 0}, {0, 0, 0, 4}, {0, 0, 0, 18}, {0, 0, 0, 0}});
        DiceRoads y = Debtors.owing(new int[][] {{0, 16, 16, 0}, {0, 0, 0, 4}, {0, 0, 0, 30}, {10, 0, 0, 0}});
        Check.due("3, 0, 1 before 3, 0, 2: clear(3)", y.clear(3), 10);
        Debtors.debtsAre("3, 0, 1 before 3, 0, 2", y,
                new int[][] {{0, 12, 10, 0}, {0, 0, 0, 0}, {0, 0, 0, 24}, {0, 0, 0, 0}});
        // from the player on: 2, 0, 1 would come before 2, 3, 1, but from 1 on it is 1, 2, 0 and 1, 2, 3
        int[][] coins = {{0, 10, 0, 0}, {0, 0, 8, 0}, {4, 0, 0, 6}, {0, 10, 0, 0}};
        DiceRoads z = Debtors.owing(coins);
        Check.due("1, 2, 0 before 1, 2, 3: clear(1)", z.clear(1), 8);
        Debtors.debtsAre("1, 2, 0 before 1, 2, 3", z,
                new int[][] {{0, 6, 0, 0}, {0, 0, 0, 0}, {0, 0, 0, 2}, {0, 6, 0, 0}});
        DiceRoads w = Debtors.owing(coins);
        Check.due("3, 1, 2 alone: clear(3)", w.clear(3), 6);
        Debtors.debtsAre("3, 1, 2 alone", w,
                new int[][] {{0, 10, 0, 0}, {0, 0, 2, 0}, {4, 0, 0, 0}, {0, 4, 0, 0}});
    }

    private static void lessByTheLeast() {
        DiceRoads x = Debtors.owing(new int[][] {{0, 10, 0, 0}, {0, 0, 10, 0}, {10, 0, 0, 0}, {2, 0, 0, 0}});
        int age = x.owes(3, 0, 1);
        Check.due("all the same: clear(0)", x.clear(0), 10);
        Debtors.debtsAre("all the same", x, new int[][] {{0, 0, 0, 0}, {0, 0, 0, 0}, {0, 0, 0, 0}, {2, 0, 0, 0}});
        Check.due("another one's debt keeps its age", x.owes(3, 0, 1), age);
        DiceRoads y = Debtors.owing(new int[][] {{0, 198, 0, 0}, {2, 0, 0, 0}, {0, 0, 0, 0}, {0, 0, 0, 0}});
        int older = y.owes(0, 1, 1);
        Check.due("the least is the other one's: clear(0)", y.clear(0), 2);
        Check.due("what is left", y.owes(0, 1, 0), 196);
        Check.due("keeps its age", y.owes(0, 1, 1), older);
        Check.due("what is cleared", y.owes(1, 0, 0), 0);
        Check.due("has no age", y.owes(1, 0, 1), -6);
        Check.due("no coin is paid", y.count(4), 0);
        Check.due("no toll is paid", y.of(0, 5) + y.of(1, 5), 0);
    }

    private static void ringOfOneCoinDebts() {
        DiceRoads x = Table.with(15, 15);
        x.set(DiceRoads.WAGE, 0);
        x.set(DiceRoads.DUE, 20);
        x.set(DiceRoads.TOLL, 1);
        Table.send(x, 0, 5, 6);
        Table.send(x, 1, 15, 6);
        Table.send(x, 1, 5, 0);
        Check.due("no ring yet: clear(0)", x.clear(0), 0);
        Table.send(x, 0, 15, 0);
        Check.due("0 owes 1", x.owes(0, 1, 0), 1);
        Check.due("1 owes 0", x.owes(1, 0, 0), 1);
        Check.due("chain(0, 0)", x.chain(0, 0), 2);
        Check.due("clear(0)", x.clear(0), 1);
        Check.due("debts", x.count(3), 0);
        Check.due("no age", x.owes(0, 1, 1), -6);
    }

    private static void clearIsAChange() {
        DiceRoads x = Table.with(5, 5);
        x.clear(0);
        Check.due("recorded though nothing is cleared", x.count(16), 3);
        int[][] coins = {{0, 8, 0, 0}, {8, 0, 0, 0}, {0, 0, 0, 0}, {0, 0, 0, 0}};
        DiceRoads y = Debtors.owing(coins);
        int age = y.owes(0, 1, 1);
        y.clear(1);
        Debtors.debtsAre("cleared", y, NO_DEBT);
        Check.due("undo()", y.undo(), 5);
        Debtors.debtsAre("undone", y, coins);
        Check.due("with its age", y.owes(0, 1, 1), age);
    }

    private static void coinsTogether() {
        int[][] coins = {{0, 4, 6, 8}, {2, 0, 12, 0}, {10, 0, 0, 6}, {8, 4, 0, 0}};
        for (int player = 0; player < 4; player++) {
            DiceRoads x = Debtors.owing(coins);
            int owed = x.of(player, 3);
            int cleared = x.clear(player);
            Check.due("clear(" + player + ") of several rings", cleared, owed - x.of(player, 3));
            Check.due("no ring is left for " + player, x.chain(player, player), -6);
            Check.that("some coins are cleared for " + player, cleared > 0);
        }
    }

    private static void clearOfNobody() {
        DiceRoads x = Table.with(5, 5);
        Check.due("one behind the last one: clear(2)", x.clear(2), -1);
        Check.due("clear(3)", x.clear(3), -1);
        Check.due("the last one: clear(1)", x.clear(1), 0);
        for (int player : FAR) {
            Check.due("clear(" + player + ")", x.clear(player), -1);
        }
        Check.due("errors are not recorded", x.count(16), 3);
        Check.due("without players: clear(0)", new DiceRoads().clear(0), -1);
    }

    private static void promise9() {
        Check.sentence("Promise 9", "0 the coins", () -> {
            DiceRoads x = Debtors.owing(new int[][] {{0, 2, 0, 198}, {0, 0, 0, 0}, {0, 0, 0, 0}, {0, 0, 4, 0}});
            Check.due("the least", x.owes(0, 1, 0), 2);
            Check.due("the other way", x.owes(1, 0, 0), 0);
            Check.due("much", x.owes(0, 3, 0), 198);
            Check.due("the last one's", x.owes(3, 2, 0), 4);
        });
        Check.sentence("Promise 9", "1 the age of the debt (NONE if there is none)", () -> {
            DiceRoads x = Debtors.owing(new int[][] {{0, 2, 0, 0}, {0, 0, 0, 0}, {0, 0, 0, 0}, {0, 0, 0, 0}});
            Check.that("an age", x.owes(0, 1, 1) > 0);
            Check.due("no debt the other way", x.owes(1, 0, 1), -6);
            Check.due("no debt of others", x.owes(2, 3, 1), -6);
            x.set(DiceRoads.WAGE, 2);
            Table.restAll(x, 3);
            Check.due("paid", x.owes(0, 1, 0), 0);
            Check.due("no debt any more", x.owes(0, 1, 1), -6);
        });
        Check.sentence("Promise 9", "NO_SUCH if there is no such player", () -> {
            DiceRoads x = Table.with(5, 5);
            for (int what = 0; what < 2; what++) {
                Check.due("owes(0, 2, " + what + ")", x.owes(0, 2, what), -1);
                Check.due("owes(2, 0, " + what + ")", x.owes(2, 0, what), -1);
                for (int player : FAR) {
                    Check.due("owes(1, " + player + ", " + what + ")", x.owes(1, player, what), -1);
                    Check.due("owes(" + player + ", 1, " + what + ")", x.owes(player, 1, what), -1);
                }
            }
            Check.due("without players: owes(0, 1, 0)", new DiceRoads().owes(0, 1, 0), -1);
        });
        Check.sentence("Promise 9", "BAD_VALUE if what is neither", () -> {
            DiceRoads x = Table.with(5, 5);
            for (int what : new int[] {-1, 2, Integer.MIN_VALUE, Integer.MAX_VALUE}) {
                Check.due("owes(0, 1, " + what + ")", x.owes(0, 1, what), -2);
            }
            Check.due("owes(0, 1, 0)", x.owes(0, 1, 0), 0);
            Check.due("owes(0, 1, 1)", x.owes(0, 1, 1), -6);
        });
        Check.sentence("Promise 9", "BAD_VALUE if both are the same.", () -> {
            DiceRoads x = Table.with(5, 5);
            for (int player = 0; player < 2; player++) {
                Check.due("owes(" + player + ", " + player + ", 0)", x.owes(player, player, 0), -2);
                Check.due("owes(" + player + ", " + player + ", 1)", x.owes(player, player, 1), -2);
            }
        });
    }

    private static void promise12() {
        Check.sentence("Promise 12", "1 if it owes it, 2 if it owes one who owes that one, and so on", () -> {
            DiceRoads x = Debtors.owing(new int[][] {{0, 0, 2, 0}, {0, 0, 0, 0}, {0, 0, 0, 2}, {0, 2, 0, 0}});
            Check.due("chain(0, 2)", x.chain(0, 2), 1);
            Check.due("chain(0, 3)", x.chain(0, 3), 2);
            Check.due("the longest: chain(0, 1)", x.chain(0, 1), 3);
            Check.due("chain(2, 1)", x.chain(2, 1), 2);
        });
        Check.sentence("Promise 12", "the least such number.", () -> {
            DiceRoads x = Debtors.owing(new int[][] {{0, 2, 0, 2}, {2, 0, 2, 0}, {0, 0, 0, 2}, {0, 0, 2, 0}});
            Check.due("by 1, or by 3 and back: chain(0, 2)", x.chain(0, 2), 2);
            Check.due("itself, or by others: chain(0, 3)", x.chain(0, 3), 1);
            Check.due("around by one other: chain(2, 2)", x.chain(2, 2), 2);
            Check.due("chain(1, 3)", x.chain(1, 3), 2);
        });
        Check.sentence("Promise 12", "NONE if it does not owe it by others either", () -> {
            DiceRoads x = Debtors.owing(new int[][] {{0, 2, 0, 0}, {0, 0, 2, 0}, {0, 0, 0, 0}, {0, 0, 0, 0}});
            Check.due("the other way: chain(2, 0)", x.chain(2, 0), -6);
            Check.due("to one who is owed nothing: chain(0, 3)", x.chain(0, 3), -6);
            Check.due("of one who owes nothing: chain(3, 0)", x.chain(3, 0), -6);
            Check.due("without debts: chain(0, 1)", Table.with(5, 5).chain(0, 1), -6);
            int[][] coins = {{0, 2, 0, 0}, {2, 0, 0, 0}, {0, 0, 0, 2}, {0, 0, 2, 0}};
            Check.due("from a ring to another one: chain(0, 2)", Debtors.owing(coins).chain(0, 2), -6);
        });
        Check.sentence("Promise 12", "for a player to itself: around", () -> {
            DiceRoads two = Debtors.owing(new int[][] {{0, 0, 0, 2}, {0, 0, 0, 0}, {0, 0, 0, 0}, {2, 0, 0, 0}});
            Check.due("two: chain(0, 0)", two.chain(0, 0), 2);
            Check.due("two: chain(3, 3)", two.chain(3, 3), 2);
            Check.due("not around: chain(1, 1)", two.chain(1, 1), -6);
            DiceRoads four = Debtors.owing(new int[][] {{0, 0, 2, 0}, {2, 0, 0, 0}, {0, 0, 0, 2}, {0, 2, 0, 0}});
            for (int player = 0; player < 4; player++) {
                Check.due("four: chain(" + player + ", " + player + ")", four.chain(player, player), 4);
            }
            DiceRoads three = Debtors.owing(new int[][] {{0, 2, 0, 0}, {0, 0, 2, 0}, {0, 0, 0, 2}, {0, 2, 0, 0}});
            Check.due("three: chain(1, 1)", three.chain(1, 1), 3);
            Check.due("owes one on a ring: chain(0, 0)", three.chain(0, 0), -6);
            Check.due("alone: chain(0, 0)", Table.with(5).chain(0, 0), -6);
        });
        Check.sentence("Promise 12", "NO_SUCH if there is no such player", () -> {
            DiceRoads x = Table.with(5, 5);
            Check.due("chain(0, 2)", x.chain(0, 2), -1);
            Check.due("chain(2, 0)", x.chain(2, 0), -1);
            Check.due("chain(2, 2)", x.chain(2, 2), -1);
            for (int player : FAR) {
                Check.due("chain(0, " + player + ")", x.chain(0, player), -1);
                Check.due("chain(" + player + ", 0)", x.chain(player, 0), -1);
                Check.due("chain(" + player + ", " + player + ")", x.chain(player, player), -1);
            }
            Check.due("without players: chain(0, 0)", new DiceRoads().chain(0, 0), -1);
        });
    }
}
