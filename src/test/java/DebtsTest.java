/** Promises 6, 9 and 12: clear, owes, chain. */
public final class DebtsTest {
    public static void main(String[] args) {
        promise6WithoutARing();
        promise6RingOfTwo();
        promise6ShortestRingFirst();
        promise6LowestRingFirst();
        promise6LowestBehindTheFirstDebt();
        promise6RingOfFour();
        promise6OnlyRingsOfThePlayer();
        debtsOfOneCoin();
        promise6Errors();
        promise9Owes();
        promise12Chain();
        promise12Around();
        Check.end();
    }

    private static void promise6WithoutARing() {
        int[][] coins = {{0, 10, 4, 0}, {0, 0, 8, 2}, {0, 0, 0, 6}, {0, 0, 0, 0}};
        DiceRoads x = Debtors.owing(coins);
        String before = Table.all(x);
        for (int player = 0; player < 4; player++) {
            Check.due("no ring: clear(" + player + ")", x.clear(player), 0);
        }
        Check.due("nothing changes", Table.all(x), before);
    }

    private static void promise6RingOfTwo() {
        DiceRoads x = Debtors.owing(new int[][] {{0, 10, 0, 0}, {4, 0, 0, 0}, {0, 0, 0, 0}, {0, 0, 0, 0}});
        int age = x.owes(0, 1, 1);
        x.save(0);
        Check.due("clear(0)", x.clear(0), 4);
        Debtors.debtsAre("ring of two", x, new int[][] {{0, 6, 0, 0}, {0, 0, 0, 0}, {0, 0, 0, 0}, {0, 0, 0, 0}});
        Check.due("the rest keeps its age", x.owes(0, 1, 1), age);
        Check.due("no toll is paid", x.of(0, 5), 0);
        Check.due("no coin comes", x.count(4), 0);
        Check.due("clear(0) again", x.clear(0), 0);
        x.restore(0);
        Check.due("clear(1)", x.clear(1), 4);
        Debtors.debtsAre("from the other", x, new int[][] {{0, 6, 0, 0}, {0, 0, 0, 0}, {0, 0, 0, 0}, {0, 0, 0, 0}});
        x.undo();
        Debtors.debtsAre("undone", x, new int[][] {{0, 10, 0, 0}, {4, 0, 0, 0}, {0, 0, 0, 0}, {0, 0, 0, 0}});
    }

    private static void promise6ShortestRingFirst() {
        DiceRoads x = Debtors.owing(new int[][] {{0, 10, 0, 6}, {0, 0, 0, 10}, {0, 0, 0, 0}, {8, 0, 0, 0}});
        Check.due("clear(0)", x.clear(0), 8);
        Debtors.debtsAre("the ring of two first", x, new int[][] {{0, 8, 0, 0}, {0, 0, 0, 8}, {0, 0, 0, 0}, {0, 0, 0, 0}});
    }

    private static void promise6LowestRingFirst() {
        DiceRoads x = Debtors.owing(new int[][] {{0, 6, 20, 0}, {0, 0, 0, 10}, {0, 0, 0, 20}, {8, 0, 0, 0}});
        Check.due("clear(0)", x.clear(0), 8);
        Debtors.debtsAre("the ring by 1 first", x, new int[][] {{0, 0, 18, 0}, {0, 0, 0, 4}, {0, 0, 0, 18}, {0, 0, 0, 0}});
    }

    private static void promise6LowestBehindTheFirstDebt() {
        // from 3: 3, 0, 1 and 3, 0, 2; and from 2 on there is but one ring
        int[][] coins = {{0, 16, 16, 0}, {0, 0, 0, 4}, {0, 0, 0, 30}, {10, 0, 0, 0}};
        DiceRoads x = Debtors.owing(coins);
        x.save(0);
        Check.due("clear(3)", x.clear(3), 10);
        Debtors.debtsAre("from 3", x, new int[][] {{0, 12, 10, 0}, {0, 0, 0, 0}, {0, 0, 0, 24}, {0, 0, 0, 0}});
        x.restore(0);
        Check.due("clear(2)", x.clear(2), 10);
        Debtors.debtsAre("from 2", x, new int[][] {{0, 16, 6, 0}, {0, 0, 0, 4}, {0, 0, 0, 20}, {0, 0, 0, 0}});
    }

    private static void promise6RingOfFour() {
        DiceRoads x = Debtors.owing(new int[][] {{0, 0, 12, 0}, {14, 0, 0, 0}, {0, 0, 0, 8}, {0, 10, 0, 0}});
        Check.due("clear(3)", x.clear(3), 8);
        Debtors.debtsAre("ring of four", x, new int[][] {{0, 0, 4, 0}, {6, 0, 0, 0}, {0, 0, 0, 0}, {0, 2, 0, 0}});
    }

    private static void promise6OnlyRingsOfThePlayer() {
        int[][] coins = {{0, 10, 0, 0}, {0, 0, 12, 0}, {0, 14, 0, 0}, {0, 0, 0, 0}};
        DiceRoads x = Debtors.owing(coins);
        Check.due("clear(0)", x.clear(0), 0);
        Check.due("clear(3)", x.clear(3), 0);
        Debtors.debtsAre("a ring of others stays", x, coins);
        Check.due("clear(2)", x.clear(2), 12);
    }

    /** A and B owe one another one coin, each for the other's bridge; both have nothing, and A is next. */
    private static DiceRoads oneCoinEach() {
        DiceRoads x = Table.with(15, 15);
        x.set(DiceRoads.WAGE, 0);
        x.set(DiceRoads.TOLL, 1);
        Table.turn(x, 2, 3, 6);
        Table.turn(x, 5, 5);
        Table.turn(x, 2, 3);
        Table.turn(x, 2, 3, 6);
        Table.turn(x, 2, 3);
        Table.turn(x, 2, 3);
        Table.turn(x, 2, 3);
        Table.turn(x, 2, 3);
        return x;
    }

    private static void debtsOfOneCoin() {
        DiceRoads x = oneCoinEach();
        Check.due("one coin: owes(0, 1, 0)", x.owes(0, 1, 0), 1);
        Check.due("one coin: owes(0, 1, 1)", x.owes(0, 1, 1), 2);
        Check.due("one coin: owes(1, 0, 0)", x.owes(1, 0, 0), 1);
        Check.due("one coin: owes(1, 0, 1)", x.owes(1, 0, 1), 1);
        Check.due("one coin: chain(0, 0)", x.chain(0, 0), 2);
        x.save(0);
        Check.due("one coin: clear(0)", x.clear(0), 1);
        Check.due("one coin: no debt is left", x.count(3), 0);
        x.restore(0);
        x.set(DiceRoads.WAGE, 1);
        Table.turn(x, 5, 5);
        Table.turn(x, 2, 3);
        Table.turn(x, 5, 5);
        Table.turn(x, 5, 5);
        Check.due("one coin is paid", Table.turn(x, 5, 5), 1);
        Check.due("one coin: owes nothing", x.owes(0, 1, 1), -6);
        x.restore(0);
        x.set(DiceRoads.DUE, 2);
        Table.turn(x, 5, 5);
        Check.due("one coin costs a square", x.ofSquare(5, 1), 1);
    }

    private static void promise6Errors() {
        DiceRoads x = new DiceRoads();
        Check.due("clear(0) without players", x.clear(0), -1);
        x.player(5);
        Check.due("clear(-1)", x.clear(-1), -1);
        Check.due("clear(1)", x.clear(1), -1);
        Check.due("clear(MIN)", x.clear(Integer.MIN_VALUE), -1);
        Check.due("clear(MAX)", x.clear(Integer.MAX_VALUE), -1);
        Check.due("errors record nothing", x.count(16), 1);
        Check.due("clear(0)", x.clear(0), 0);
        Check.due("clear(0) is recorded", x.count(16), 2);
    }

    private static void promise9Owes() {
        DiceRoads x = Debtors.owing(new int[][] {{0, 10, 0, 0}, {0, 0, 6, 0}, {0, 0, 0, 0}, {198, 0, 0, 0}});
        int age = x.owes(0, 1, 1);
        Check.due("owes(1, 2, 1)", x.owes(1, 2, 1), age);
        Check.due("owes(1, 0, 1)", x.owes(1, 0, 1), -6);
        x.go(1);
        Check.due("one turn of the debtor later", x.owes(0, 1, 1), age + 1);
        Check.due("not of another one", x.owes(1, 2, 1), age);
        Check.due("owes(0, 0, 0)", x.owes(0, 0, 0), -2);
        Check.due("owes(0, 1, 2)", x.owes(0, 1, 2), -2);
        Check.due("owes(0, 1, -1)", x.owes(0, 1, -1), -2);
        Check.due("owes(0, 1, MAX)", x.owes(0, 1, Integer.MAX_VALUE), -2);
        Check.due("owes(-1, 0, 9)", x.owes(-1, 0, 9), -1);
        Check.due("owes(0, -1, 9)", x.owes(0, -1, 9), -1);
        Check.due("owes(4, 0, 0)", x.owes(4, 0, 0), -1);
        Check.due("owes(0, 4, 0)", x.owes(0, 4, 0), -1);
        Check.due("owes(MAX, MAX, 0)", x.owes(Integer.MAX_VALUE, Integer.MAX_VALUE, 0), -1);
        Check.due("owes(MIN, 0, 0)", x.owes(Integer.MIN_VALUE, 0, 0), -1);
        Check.due("two players only", Table.with(1, 1).owes(0, 2, 0), -1);
    }

    private static void promise12Chain() {
        DiceRoads x = Debtors.owing(new int[][] {{0, 10, 0, 0}, {0, 0, 6, 0}, {0, 0, 0, 4}, {0, 0, 0, 0}});
        int[][] due = {{-6, 1, 2, 3}, {-6, -6, 1, 2}, {-6, -6, -6, 1}, {-6, -6, -6, -6}};
        chainsAre(x, due);
        Check.due("chain(4, 0)", x.chain(4, 0), -1);
        Check.due("chain(0, 4)", x.chain(0, 4), -1);
        Check.due("chain(-1, 0)", x.chain(-1, 0), -1);
        Check.due("chain(0, MIN)", x.chain(0, Integer.MIN_VALUE), -1);
        Check.due("chain(MAX, 0)", x.chain(Integer.MAX_VALUE, 0), -1);
        Check.due("without players", new DiceRoads().chain(0, 0), -1);
    }

    private static void promise12Around() {
        chainsAre(Debtors.owing(new int[][] {{0, 0, 12, 0}, {14, 0, 0, 0}, {0, 0, 0, 8}, {0, 10, 0, 0}}),
                new int[][] {{4, 3, 1, 2}, {1, 4, 2, 3}, {3, 2, 4, 1}, {2, 1, 3, 4}});
        chainsAre(Debtors.owing(new int[][] {{0, 2, 2, 0}, {0, 0, 2, 0}, {0, 0, 0, 2}, {0, 2, 0, 0}}),
                new int[][] {{-6, 1, 1, 2}, {-6, 3, 1, 2}, {-6, 2, 3, 1}, {-6, 1, 2, 3}});
        chainsAre(Debtors.owing(new int[][] {{0, 0, 0, 2}, {0, 0, 0, 0}, {0, 0, 0, 0}, {2, 0, 0, 0}}),
                new int[][] {{2, -6, -6, 1}, {-6, -6, -6, -6}, {-6, -6, -6, -6}, {1, -6, -6, 2}});
    }

    private static void chainsAre(DiceRoads x, int[][] due) {
        for (int debtor = 0; debtor < 4; debtor++) {
            for (int creditor = 0; creditor < 4; creditor++) {
                Check.due("chain(" + debtor + ", " + creditor + ")", x.chain(debtor, creditor), due[debtor][creditor]);
            }
        }
    }
}
