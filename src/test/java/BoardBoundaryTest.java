/** The boundary cases of the board, the players, the draws and the debts before there is one. */
public final class BoardBoundaryTest {
    public static void main(String[] args) {
        Check.sentence("Board", "The ring has 20 squares, 0 to 19", BoardBoundaryTest::twentySquares);
        Check.sentence("Board", "the squares 0 and 10 are inns, 5 and 15 bridges, all others roads.",
                BoardBoundaryTest::sorts);
        Check.sentence("Board", "The groups are the squares 0 to 4, 5 to 9, 10 to 14 and 15 to 19.",
                BoardBoundaryTest::groupsEndWhereTheyDo);
        Check.sentence("Board", "A road has one owner or none", BoardBoundaryTest::ownersOfARoad);
        Check.sentence("Board", "a bridge none, one or two (a first and a second one).",
                BoardBoundaryTest::ownersOfABridge);
        Check.sentence("Board", "TOLL times (1 and the number of roads of its group, that square too if it is a road)",
                BoardBoundaryTest::tollsFromNoRoadToAll);
        Check.sentence("Board", "bridges not", BoardBoundaryTest::bridgesDoNotCount);
        Check.sentence("Board", "that its first owner owns", BoardBoundaryTest::theFirstOwnersRoadsCount);
        Check.sentence("Players", "There are up to 4 players, numbered in the order in which they came",
                BoardBoundaryTest::upToFourPlayers);
        Check.sentence("Players", "each with a purse and a square (0 at first). One is next (0 at first).",
                BoardBoundaryTest::playersAtFirst);
        Check.sentence("Draws", "x (1 at first)", BoardBoundaryTest::theFirstDraws);
        Check.sentence("Draws", "becomes (75 * x + 74) left over by 65537", BoardBoundaryTest::drawsGoAround);
        Check.sentence("Draws", "the die is 1 and (x / 8) left over by 6.", BoardBoundaryTest::diceFromOneToSix);
        Check.sentence("Debts", "Each player owes each other one some coins (0 at first)",
                BoardBoundaryTest::nothingIsOwedAtFirst);
        Check.sentence("Debts", "what it owes to one is a debt, if it is above 0, and has an age",
                BoardBoundaryTest::aDebtOfOneCoin);
        Check.sentence("Debts", "0 when it comes to be above 0; when it becomes 0, its age is gone",
                BoardBoundaryTest::ageBeginsAnew);
        Check.end();
    }

    private static void twentySquares() {
        DiceRoads x = new DiceRoads();
        Check.due("the sort of the square 0", x.ofSquare(0, 0), 0);
        Check.due("the sort of the square 19", x.ofSquare(19, 0), 1);
        Check.due("the square -1", x.ofSquare(-1, 0), -1);
        Check.due("the square 20", x.ofSquare(20, 0), -1);
        Check.due("signs", x.count(14), 20);
    }

    private static void sorts() {
        DiceRoads x = new DiceRoads();
        for (int square = 0; square < 20; square++) {
            int sort = square == 0 || square == 10 ? 0 : square == 5 || square == 15 ? 2 : 1;
            Check.due("the sort of " + square, x.ofSquare(square, 0), sort);
            Check.due("the sign of " + square, x.sign(square), "o-=".charAt(sort));
        }
    }

    private static void groupsEndWhereTheyDo() {
        DiceRoads x = Table.with(9999);
        x.set(DiceRoads.TOLL, 10);
        tolls(x, 4, 20);
        tolls(x, 6, 20);
        tolls(x, 9, 30);
        tolls(x, 11, 20);
        tolls(x, 14, 30);
        tolls(x, 16, 20);
        tolls(x, 19, 30);
        tolls(x, 1, 30);
        int[] all = {30, 30, 30, 30, 30, 30, 30, 30};
        int[] squares = {1, 4, 6, 9, 11, 14, 16, 19};
        for (int i = 0; i < squares.length; i++) {
            Check.due("in the end the toll of " + squares[i], x.ofSquare(squares[i], 3), all[i]);
        }
        tolls(x, 5, 30);
        tolls(x, 15, 30);
        Check.due("the toll of 4 beside the bridge", x.ofSquare(4, 3), 30);
        Check.due("the toll of 14 beside the bridge", x.ofSquare(14, 3), 30);
    }

    /** The only player claims the square, which has this toll then. */
    private static void tolls(DiceRoads x, int square, int toll) {
        Table.send(x, 0, square, 6);
        Check.due("the owner of " + square, x.ofSquare(square, 1), 0);
        Check.due("the toll of " + square, x.ofSquare(square, 3), toll);
    }

    private static void ownersOfARoad() {
        DiceRoads x = Table.with(100, 100);
        Check.due("none", x.ofSquare(3, 1), -6);
        Table.turn(x, 1, 2, 6);
        Check.due("one", x.ofSquare(3, 1), 0);
        x.seed(Table.seedFor(1, 2, 6));
        int drawn = drawn(x.count(8), 2);
        x.go(1);
        Check.due("no more", x.ofSquare(3, 2), -6);
        Check.due("still the one", x.ofSquare(3, 1), 0);
        Check.due("no die is thrown for it", x.count(8), drawn);
        Check.due("squares of the other one", x.of(1, 2), 0);
    }

    private static void ownersOfABridge() {
        for (int bridge = 5; bridge <= 15; bridge += 10) {
            DiceRoads x = Table.with(100, 100, 100);
            Check.due("no first one", x.ofSquare(bridge, 1), -6);
            Check.due("no second one", x.ofSquare(bridge, 2), -6);
            Table.send(x, 1, bridge, 6);
            Check.due("the first one", x.ofSquare(bridge, 1), 1);
            Check.due("no second one yet", x.ofSquare(bridge, 2), -6);
            Table.send(x, 0, bridge, 6);
            Check.due("the first one stays", x.ofSquare(bridge, 1), 1);
            Check.due("the second one", x.ofSquare(bridge, 2), 0);
            Table.send(x, 2, bridge, 6);
            Check.due("the first one stays", x.ofSquare(bridge, 1), 1);
            Check.due("the second one stays", x.ofSquare(bridge, 2), 0);
            Check.due("no third one", x.of(2, 2), 0);
        }
    }

    private static void tollsFromNoRoadToAll() {
        DiceRoads none = Table.with(9999);
        for (int square = 0; square < 20; square++) {
            Check.due("nobody's: the toll of " + square, none.ofSquare(square, 3), 0);
        }
        for (int start = 1; start < 20; start += 5) {
            DiceRoads x = Table.with(9999, 9999);
            x.set(DiceRoads.TOLL, 99);
            for (int i = 0; i < 4; i++) {
                Table.send(x, 0, start + i, 6);
                for (int j = 0; j < 4; j++) {
                    Check.due(i + 1 + " roads: the toll of " + (start + j), x.ofSquare(start + j, 3),
                            j <= i ? 99 * (2 + i) : 0);
                }
            }
            Check.due("the most that is paid at once", Table.send(x, 1, start + 3, 0), 495);
            Check.due("the toll of an inn", x.ofSquare(0, 3), 0);
            Check.due("the toll of the other inn", x.ofSquare(10, 3), 0);
        }
    }

    private static void bridgesDoNotCount() {
        DiceRoads x = Table.with(9999);
        x.set(DiceRoads.TOLL, 10);
        tolls(x, 5, 10);
        tolls(x, 6, 20);
        Check.due("the bridge with a road", x.ofSquare(5, 3), 20);
        tolls(x, 7, 30);
        tolls(x, 8, 40);
        tolls(x, 9, 50);
        Check.due("the bridge with all roads", x.ofSquare(5, 3), 50);
        tolls(x, 15, 10);
    }

    private static void theFirstOwnersRoadsCount() {
        DiceRoads x = Table.with(9999, 9999);
        x.set(DiceRoads.TOLL, 10);
        Table.send(x, 0, 5, 6);
        Table.send(x, 1, 5, 6);
        Table.send(x, 1, 6, 6);
        Table.send(x, 1, 8, 6);
        Check.due("the second one's roads do not", x.ofSquare(5, 3), 10);
        Check.due("but for the roads themselves", x.ofSquare(6, 3), 30);
        Table.send(x, 0, 7, 6);
        Check.due("the first one's do", x.ofSquare(5, 3), 20);
        Check.due("its road", x.ofSquare(7, 3), 20);
        Check.due("the other one's roads", x.ofSquare(8, 3), 30);
    }

    private static void upToFourPlayers() {
        DiceRoads x = new DiceRoads();
        for (int i = 0; i < 4; i++) {
            Check.due("no player " + i + " yet", x.of(i, 0), -1);
            Check.due("player", x.player(10 + i), i);
            Check.due("purse of " + i, x.of(i, 0), 10 + i);
        }
        Check.due("a fifth one", x.player(14), -4);
        Check.due("of(4, 0)", x.of(4, 0), -1);
        Check.due("purse of the last one", x.of(3, 0), 13);
    }

    private static void playersAtFirst() {
        DiceRoads x = Table.with(0, 9999, 1, 2);
        int[] purses = {0, 9999, 1, 2};
        for (int player = 0; player < 4; player++) {
            Check.due("purse of " + player, x.of(player, 0), purses[player]);
            Check.due("square of " + player, x.of(player, 1), 0);
        }
        Check.due("the player who is next", x.count(2), 0);
        Check.due("the one player who is next", Table.with(5).count(2), 0);
    }

    private static int drawn(int x, int draws) {
        long drawn = x;
        for (int i = 0; i < draws; i++) {
            drawn = (75 * drawn + 74) % 65537;
        }
        return (int) drawn;
    }

    private static int die(int x, int draws) {
        return 1 + drawn(x, draws) / 8 % 6;
    }

    private static void theFirstDraws() {
        DiceRoads x = Table.with(0);
        Check.due("x", x.count(8), 1);
        x.go(1);
        // 149 is a die of 1, 11249 one of 3, and 57305 one for the road
        Check.due("the square", x.of(0, 1), 4);
        Check.due("x", x.count(8), 57305);
    }

    private static void drawsGoAround() {
        // 75 * 872 + 74 is 65474, still below 65537; from 873 on it goes around, by 9999 eleven times
        Check.due("872", drawn(872, 1), 65474);
        Check.due("873", drawn(873, 1), 12);
        int[] seeds = {0, 1, 872, 873, 1746, 1747, 2620, 2621, 8737, 8738, 9611, 9612, 9998, 9999};
        for (int seed : seeds) {
            DiceRoads x = Table.with(0);
            x.seed(seed);
            x.go(1);
            int draws = x.of(0, 1) == 10 ? 2 : 3;
            Check.due("x behind the seed " + seed, x.count(8), drawn(seed, draws));
        }
        DiceRoads x = Table.with(0);
        x.set(DiceRoads.CLAIM, 7);
        int drawn = 1;
        int square = 0;
        for (int turn = 0; turn < 100; turn++) {
            x.go(1);
            square = (square + die(drawn, 1) + die(drawn, 2)) % 20;
            drawn = drawn(drawn, square % 10 == 0 ? 2 : 3);
            Check.due("turn " + turn + ": the square", x.of(0, 1), square);
            Check.due("turn " + turn + ": x", x.count(8), drawn);
        }
    }

    private static void diceFromOneToSix() {
        boolean[] met = new boolean[6 * 8];
        int[] ways = new int[13];
        DiceRoads x = Table.with(0);
        for (int seed = 0; seed < 3000; seed++) {
            if (seed % 100 == 0) {
                x = Table.with(0);
            }
            int square = x.of(0, 1);
            x.seed(seed);
            x.go(1);
            int way = die(seed, 1) + die(seed, 2);
            Check.due("the square behind the seed " + seed, x.of(0, 1), (square + way) % 20);
            met[drawn(seed, 1) % 48] = true;
            ways[way]++;
        }
        for (int rest = 0; rest < 48; rest++) {
            Check.that("an x of 48 times something and " + rest + " was met", met[rest]);
        }
        Check.that("two dice of 1, and two of 6, were thrown", ways[2] > 0 && ways[12] > 0);
    }

    private static void nothingIsOwedAtFirst() {
        DiceRoads x = Table.with(0, 5, 9999, 1);
        for (int debtor = 0; debtor < 4; debtor++) {
            for (int creditor = 0; creditor < 4; creditor++) {
                if (debtor != creditor) {
                    Check.due("coins of " + debtor + " to " + creditor, x.owes(debtor, creditor, 0), 0);
                    Check.due("age of " + debtor + " to " + creditor, x.owes(debtor, creditor, 1), -6);
                }
            }
            Check.due(debtor + " owes", x.of(debtor, 3), 0);
            Check.due("owed to " + debtor, x.of(debtor, 4), 0);
        }
        Check.due("debts", x.count(3), 0);
        Check.due("coins of all debts", x.count(5), 0);
    }

    /** B, with a purse of so many coins, has come to A's road 3, of which the toll is 12. */
    private static DiceRoads onTheRoad(int purse) {
        DiceRoads x = Table.with(15, purse);
        Table.turn(x, 1, 2, 6);
        Table.turn(x, 1, 2);
        return x;
    }

    private static void aDebtOfOneCoin() {
        DiceRoads x = onTheRoad(11);
        Check.due("coins", x.owes(1, 0, 0), 1);
        Check.due("age", x.owes(1, 0, 1), 1);
        Check.due("debts", x.count(3), 1);
        Check.due("chain", x.chain(1, 0), 1);
        DiceRoads y = onTheRoad(12);
        Check.due("no coins", y.owes(1, 0, 0), 0);
        Check.due("no age", y.owes(1, 0, 1), -6);
        Check.due("no debts", y.count(3), 0);
        Check.due("no chain", y.chain(1, 0), -6);
    }

    private static void ageBeginsAnew() {
        DiceRoads x = onTheRoad(0);
        x.set(DiceRoads.WAGE, 12);
        x.set(DiceRoads.DUE, 20);
        Check.due("0, and one turn", x.owes(1, 0, 1), 1);
        Table.restAll(x, 2);
        Check.due("two turns more", x.owes(1, 0, 1), 3);
        Table.restAll(x, 1);
        Check.due("paid", x.owes(1, 0, 0), 0);
        Check.due("its age is gone", x.owes(1, 0, 1), -6);
        Table.restAll(x, 2);
        Check.due("no age comes by turns", x.owes(1, 0, 1), -6);
        x.set(DiceRoads.TOLL, 99);
        Table.restAll(x, 1);
        Table.send(x, 1, 3, 0);
        Check.that("it owes again", x.owes(1, 0, 0) > 0);
        Check.due("the age begins anew", x.owes(1, 0, 1), 1);
    }
}
