/** Boards on which four players owe one another what a test wants. */
final class Debtors {
    /** Player p owns the road ROADS[p] and nothing else. */
    private static final int[] ROADS = {2, 3, 4, 6};

    private Debtors() {
    }

    /** A board on which the debtor of each row owes the creditor of each column that many coins (an even number). */
    static DiceRoads owing(int[][] coins) {
        DiceRoads x = Table.with(15, 15, 15, 15);
        x.set(DiceRoads.WAGE, 0);
        x.set(DiceRoads.DUE, 20);
        for (int player = 0; player < 4; player++) {
            Table.turn(x, 1, ROADS[player] - 1, 6);
        }
        Table.restAll(x, 1);
        // now nobody has a coin or gets one, so that nothing is claimed or paid
        for (int round = 1; round < 4; round++) {
            for (int player = 0; player < 4; player++) {
                Table.turn(x, 5, 5);
            }
            for (int player = 0; player < 4; player++) {
                int creditor = (player + round) % 4;
                int debt = coins[player][creditor];
                if (debt > 0) {
                    x.set(DiceRoads.TOLL, debt / 2);
                }
                Table.turn(x, 1, ROADS[debt > 0 ? creditor : player] - 1);
            }
            Table.restAll(x, 1);
        }
        debtsAre("before", x, coins);
        return x;
    }

    /** Checks all debts, and all that follows from them. */
    static void debtsAre(String when, DiceRoads x, int[][] coins) {
        int debts = 0;
        int all = 0;
        for (int debtor = 0; debtor < 4; debtor++) {
            int owed = 0;
            int got = 0;
            for (int other = 0; other < 4; other++) {
                if (debtor != other) {
                    Check.due(when + ": owes(" + debtor + ", " + other + ", 0)", x.owes(debtor, other, 0),
                            coins[debtor][other]);
                    Check.that(when + ": age of " + debtor + " to " + other,
                            x.owes(debtor, other, 1) == -6 == (coins[debtor][other] == 0));
                }
                owed += coins[debtor][other];
                got += coins[other][debtor];
                debts += coins[debtor][other] > 0 ? 1 : 0;
            }
            all += owed;
            Check.due(when + ": of(" + debtor + ", 3)", x.of(debtor, 3), owed);
            Check.due(when + ": of(" + debtor + ", 4)", x.of(debtor, 4), got);
        }
        Check.due(when + ": count(3)", x.count(3), debts);
        Check.due(when + ": count(5)", x.count(5), all);
    }
}
