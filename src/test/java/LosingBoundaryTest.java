/** The boundary cases of a turn's last step: debts grow older, and cost squares. */
public final class LosingBoundaryTest {
    public static void main(String[] args) {
        Check.sentence("A turn, 4", "Each of its debts (new ones too) is one turn older.",
                LosingBoundaryTest::oneTurnOlder);
        Check.sentence("A turn, 4", "a debt older than DUE costs the lowest square that the player owns",
                LosingBoundaryTest::olderThanDue);
        Check.sentence("A turn, 4", "the lowest square that the player owns", LosingBoundaryTest::theLowestSquare);
        Check.sentence("A turn, 4", "its part of it goes to the creditor, and it owes that one nothing any more.",
                LosingBoundaryTest::itsPartGoesToTheCreditor);
        Check.sentence("A turn, 4", "Then, the oldest first", LosingBoundaryTest::theOldestFirst);
        Check.sentence("A turn, 4", "of several that of the lowest creditor",
                LosingBoundaryTest::theLowestCreditorFirst);
        Check.sentence("A turn, 4", "a debt costs the lowest square: up to three debts in one turn",
                LosingBoundaryTest::threeAtOnce);
        Check.sentence("A turn, 4", "a debt costs a square: also one of one coin", LosingBoundaryTest::oneCoin);
        Check.sentence("A turn, 4", "If the creditor owns the other part of a bridge, it is its only owner then, the "
                + "first one", LosingBoundaryTest::theCreditorOwnsTheOtherPart);
        Check.sentence("A turn, 4", "if a first owner of a bridge loses its part, the creditor is the first one.",
                LosingBoundaryTest::aFirstOwnerLosesItsPart);
        Check.sentence("A turn, 4", "its part of it goes to the creditor: a second one's too",
                LosingBoundaryTest::aSecondOwnerLosesItsPart);
        Check.sentence("A turn, 4", "If the player owns no square, the debt stays.", LosingBoundaryTest::noSquare);
        Check.sentence("A turn, 4", "the lowest square that the player owns: one that it has just claimed, too",
                LosingBoundaryTest::claimedInThatTurn);
        Check.sentence("A turn, 4", "4. comes behind 1.: a debt that is paid in time costs nothing",
                LosingBoundaryTest::paidInTime);
        Check.end();
    }

    /** A board on which no wages come and debts can grow old. */
    private static DiceRoads slow(int... purses) {
        DiceRoads x = Table.with(purses);
        x.set(DiceRoads.WAGE, 0);
        x.set(DiceRoads.DUE, 20);
        return x;
    }

    /** Others go from inn to inn until the player is next; then debts that are older than DUE 1 cost it squares. */
    private static void falls(DiceRoads x, int player) {
        Table.restUntil(x, () -> x.count(2) == player);
        x.set(DiceRoads.DUE, 1);
        Table.rest(x);
    }

    private static void oneTurnOlder() {
        DiceRoads x = slow(15, 15, 0);
        Table.send(x, 0, 3, 6);
        Table.send(x, 1, 7, 6);
        Table.send(x, 2, 3, 0);
        Check.due("a new one", x.owes(2, 0, 1), 1);
        Table.rest(x);
        Table.rest(x);
        Check.due("not by others' turns", x.owes(2, 0, 1), 1);
        Table.turn(x, 2, 2);
        Check.due("a new one beside it", x.owes(2, 1, 1), 1);
        Check.due("the old one", x.owes(2, 0, 1), 2);
        Table.restAll(x, 1);
        Check.due("both", x.owes(2, 0, 1) * 10 + x.owes(2, 1, 1), 32);
        Check.due("none the other way", x.owes(0, 2, 1), -6);
        Check.due("none of others", x.owes(0, 1, 1), -6);

        int[][] all = {{0, 2, 2, 2}, {2, 0, 2, 2}, {2, 2, 0, 2}, {2, 2, 2, 0}};
        DiceRoads twelve = Debtors.owing(all);
        int[] ages = new int[16];
        for (int place = 0; place < 16; place++) {
            ages[place] = twelve.owes(place / 4, place % 4, 1);
        }
        for (int player = 0; player < 4; player++) {
            Table.rest(twelve);
            for (int place = 0; place < 16; place++) {
                if (place / 4 != place % 4) {
                    Check.due("of twelve, behind the turn of " + player + ": the age of " + place,
                            twelve.owes(place / 4, place % 4, 1), ages[place] + (place / 4 <= player ? 1 : 0));
                }
            }
        }
    }

    private static void olderThanDue() {
        for (int due : new int[] {1, 2, 3, 20}) {
            DiceRoads x = slow(15, 15);
            Table.send(x, 0, 4, 6);
            Table.send(x, 1, 2, 6);
            x.set(DiceRoads.DUE, due);
            Table.send(x, 1, 4, 0);
            Table.restAll(x, due - 1);
            Check.due(due + ": as old as DUE", x.owes(1, 0, 1), due);
            Check.due(due + ": nothing is lost", x.of(1, 8), 0);
            Check.due(due + ": the square", x.of(1, 2), 1 << 2);
            Table.rest(x);
            Check.due(due + ": not by another one's turn", x.of(1, 8), 0);
            Table.rest(x);
            Check.due(due + ": older than DUE", x.of(1, 8), 1);
            Check.due(due + ": no square", x.of(1, 2), 0);
        }
    }

    private static void theLowestSquare() {
        int[][] squares = {{19, 1}, {1, 19}, {16, 12, 11}, {15, 5, 6}, {14, 15}, {18, 15}, {9, 11}, {1}, {19}, {5},
            {15}};
        for (int[] owned : squares) {
            DiceRoads x = slow(15, 15 * owned.length);
            Table.send(x, 0, 8, 6);
            int set = 0;
            int lowest = 19;
            for (int square : owned) {
                Table.send(x, 1, square, 6);
                set |= 1 << square;
                lowest = Math.min(lowest, square);
            }
            Check.due("squares", x.of(1, 2), set);
            Check.due("the purse", x.of(1, 0), 0);
            Table.send(x, 1, 8, 0);
            falls(x, 1);
            Check.due("all but the lowest", x.of(1, 2), set & ~(1 << lowest));
            Check.due("the lowest", x.of(0, 2), 1 << 8 | 1 << lowest);
            Check.due("lost", x.of(1, 8), 1);
        }
    }

    private static void itsPartGoesToTheCreditor() {
        DiceRoads x = slow(15, 15, 0);
        Table.send(x, 0, 4, 6);
        Table.send(x, 1, 2, 6);
        Table.send(x, 1, 4, 0);
        Check.due("owed", x.owes(1, 0, 0), 12);
        int tolls = x.of(1, 5);
        falls(x, 1);
        Check.due("the owner", x.ofSquare(2, 1), 0);
        Check.due("squares of the debtor", x.of(1, 2), 0);
        Check.due("squares of the creditor", x.of(0, 2), 1 << 2 | 1 << 4);
        Check.due("the toll grows with it", x.ofSquare(4, 3), 18);
        Check.due("owed", x.owes(1, 0, 0), 0);
        Check.due("its age is gone", x.owes(1, 0, 1), -6);
        Check.due("debts", x.count(3), 0);
        Check.due("no coin is paid", x.count(4), 0);
        Check.due("no toll is paid", x.of(1, 5), tolls);
        Check.due("no toll is got", x.of(0, 6), 0);
        Check.due("squares lost by the creditor", x.of(0, 8), 0);
        x.undo();
        Check.due("undone", x.of(1, 8), 0);
    }

    /** C owes B since some turns before it came to owe A; it has so many squares of 11, 12 and 13, and no coin. */
    private static DiceRoads owingTwo(int squares, boolean secondIsOlder) {
        DiceRoads x = slow(15, 15, 15 * squares);
        Table.send(x, 0, 3, 6);
        Table.send(x, 1, 7, 6);
        for (int square = 11; square < 11 + squares; square++) {
            Table.send(x, 2, square, 6);
        }
        Table.send(x, 2, secondIsOlder ? 7 : 3, 0);
        Table.send(x, 2, secondIsOlder ? 3 : 7, 0);
        Check.due("debts", x.count(3), 2);
        return x;
    }

    private static void theOldestFirst() {
        for (int creditor = 0; creditor < 2; creditor++) {
            for (int squares = 0; squares <= 3; squares++) {
                DiceRoads x = owingTwo(squares, creditor == 1);
                falls(x, 2);
                int lost = Math.min(squares, 2);
                Check.due("lost of " + squares, x.of(2, 8), lost);
                Check.due("the oldest gets the lowest of " + squares, x.ofSquare(11, 1), lost > 0 ? creditor : -6);
                Check.due("the other one the next of " + squares, x.ofSquare(12, 1), lost > 1 ? 1 - creditor : -6);
                Check.due("the rest of " + squares, x.of(2, 2), squares == 3 ? 1 << 13 : 0);
                Check.due("owes the oldest, of " + squares, x.owes(2, creditor, 0), lost > 0 ? 0 : 12);
                Check.due("owes the other one, of " + squares, x.owes(2, 1 - creditor, 0), lost > 1 ? 0 : 12);
            }
        }
        DiceRoads x = owingTwo(2, true);
        int age = x.owes(2, 0, 1);
        Table.restUntil(x, () -> x.count(2) == 2);
        x.set(DiceRoads.DUE, age + 1);
        Table.rest(x);
        Check.due("the one that is not too old yet costs nothing", x.of(2, 8), 1);
        Check.due("the oldest one does", x.ofSquare(11, 1), 1);
        Check.due("the other one stays", x.owes(2, 0, 0), 12);
        Table.restAll(x, 1);
        Check.due("a turn later it does, too", x.ofSquare(12, 1), 0);
    }

    private static void theLowestCreditorFirst() {
        for (int first = 0; first < 2; first++) {
            for (int squares = 1; squares <= 2; squares++) {
                DiceRoads x = slow(100, 100, 15 * squares);
                Table.send(x, first, 5, 6);
                Table.send(x, 1 - first, 5, 6);
                for (int square = 11; square < 11 + squares; square++) {
                    Table.send(x, 2, square, 6);
                }
                Table.send(x, 2, 5, 0);
                Check.due("the same age", x.owes(2, 0, 1), x.owes(2, 1, 1));
                falls(x, 2);
                Check.due("the lowest one gets the lowest of " + squares, x.ofSquare(11, 1), 0);
                Check.due("the other one gets the next of " + squares, x.ofSquare(12, 1), squares == 2 ? 1 : -6);
                Check.due("owes the lowest one", x.owes(2, 0, 0), 0);
                Check.due("owes the other one", x.owes(2, 1, 0), squares == 2 ? 0 : 3);
            }
        }
    }

    private static void threeAtOnce() {
        for (int squares = 0; squares <= 4; squares++) {
            DiceRoads x = slow(15, 15, 15, 15 * squares);
            Table.send(x, 0, 2, 6);
            Table.send(x, 1, 3, 6);
            Table.send(x, 2, 6, 6);
            for (int square = 11; square < 11 + squares; square++) {
                Table.send(x, 3, square, 6);
            }
            Table.send(x, 3, 6, 0);
            Table.send(x, 3, 2, 0);
            Table.send(x, 3, 3, 0);
            Check.due("three debts", x.count(3), 3);
            falls(x, 3);
            Check.due("lost of " + squares, x.of(3, 8), Math.min(squares, 3));
            Check.due("debts behind the loss of " + squares, x.count(3), 3 - Math.min(squares, 3));
            Check.due("C's debt is the oldest", x.ofSquare(11, 1), squares > 0 ? 2 : -6);
            Check.due("then A's", x.ofSquare(12, 1), squares > 1 ? 0 : -6);
            Check.due("then B's", x.ofSquare(13, 1), squares > 2 ? 1 : -6);
            Check.due("the fourth square stays", x.ofSquare(14, 1), squares > 3 ? 3 : -6);
        }
    }

    /** Each player owes each other one 1 coin once, as the only debt there is, for the other one's bridge. */
    private static void oneCoin() {
        for (int debtor = 0; debtor < 4; debtor++) {
            for (int creditor = 0; creditor < 4; creditor++) {
                if (debtor == creditor) {
                    continue;
                }
                DiceRoads x = slow(15, 15, 15, 15);
                x.set(DiceRoads.TOLL, 1);
                Table.send(x, creditor, 5, 6);
                Table.send(x, debtor, 19, 6);
                Table.send(x, debtor, 5, 0);
                Check.due("owed", x.owes(debtor, creditor, 0), 1);
                falls(x, debtor);
                Check.due("lost for one coin", x.of(debtor, 8), 1);
                Check.due("to the creditor", x.ofSquare(19, 1), creditor);
                Check.due("owed then", x.owes(debtor, creditor, 0), 0);
            }
        }
    }

    /** B owes A for the road 7, and has a part of the bridge 5, as these two do (-1: nobody), and nothing lower. */
    private static DiceRoads losing(int bridge, int first, int second) {
        DiceRoads x = slow(100, 15, 15, 0);
        x.set(DiceRoads.TOLL, 99);
        Table.send(x, 0, bridge + 2, 6);
        Table.send(x, first, bridge, 6);
        if (second >= 0) {
            Table.send(x, second, bridge, 6);
        }
        Check.due("the first one", x.ofSquare(bridge, 1), first);
        Check.due("the second one", x.ofSquare(bridge, 2), second < 0 ? -6 : second);
        Table.send(x, 1, bridge + 2, 0);
        Check.that("B owes A", x.owes(1, 0, 0) > 0);
        falls(x, 1);
        Check.due("B lost one", x.of(1, 8), 1);
        Check.due("B has none", x.of(1, 2), 0);
        Check.due("B owes A nothing", x.owes(1, 0, 0), 0);
        Check.due("A has it", x.of(0, 2), 1 << bridge | 1 << bridge + 2);
        return x;
    }

    private static void theCreditorOwnsTheOtherPart() {
        for (int bridge = 5; bridge <= 15; bridge += 10) {
            for (int first = 0; first < 2; first++) {
                DiceRoads x = losing(bridge, first, 1 - first);
                Check.due("the first one", x.ofSquare(bridge, 1), 0);
                Check.due("no second one", x.ofSquare(bridge, 2), -6);
                Check.due("the text of the board", Table.text(x).replaceAll("[A-D]", ""),
                        bridge == 5 ? "o----=a--a--o----=----" : "o----=----o----=a--a--");
            }
        }
        DiceRoads x = losing(5, 1, 0);
        x.set(DiceRoads.TOLL, 7);
        Table.send(x, 2, 5, 1);
        Check.due("the toll is the only owner's", x.owes(2, 0, 0) + x.of(2, 5), 14);
        Check.due("nothing to the one who lost it", x.owes(2, 1, 0), 0);
        DiceRoads y = losing(5, 1, 0);
        int coins = y.of(0, 0);
        Table.send(y, 2, 5, 6);
        Check.due("the other part can be claimed", y.ofSquare(5, 2), 2);
        Check.due("and is paid to the only owner", y.of(0, 0), coins + 15);
    }

    private static void aFirstOwnerLosesItsPart() {
        for (int bridge = 5; bridge <= 15; bridge += 10) {
            DiceRoads shared = losing(bridge, 1, 2);
            Check.due("the first one", shared.ofSquare(bridge, 1), 0);
            Check.due("the second one stays", shared.ofSquare(bridge, 2), 2);
            DiceRoads alone = losing(bridge, 1, -1);
            Check.due("the first one, alone", alone.ofSquare(bridge, 1), 0);
            Check.due("no second one", alone.ofSquare(bridge, 2), -6);
        }
    }

    private static void aSecondOwnerLosesItsPart() {
        for (int bridge = 5; bridge <= 15; bridge += 10) {
            DiceRoads x = losing(bridge, 2, 1);
            Check.due("the first one stays", x.ofSquare(bridge, 1), 2);
            Check.due("the second one", x.ofSquare(bridge, 2), 0);
        }
    }

    private static void noSquare() {
        DiceRoads x = slow(15, 0);
        Table.send(x, 0, 3, 6);
        Table.send(x, 1, 3, 0);
        x.set(DiceRoads.DUE, 1);
        Table.restAll(x, 9);
        Check.due("owed", x.owes(1, 0, 0), 12);
        Check.due("its age goes on", x.owes(1, 0, 1), 10);
        Check.due("lost", x.of(1, 8), 0);
        Check.due("nobody gets a square", x.of(0, 2), 1 << 3);
        x.set(DiceRoads.WAGE, 27);
        Table.restUntil(x, () -> x.of(1, 0) > 0);
        x.set(DiceRoads.DUE, 20);
        x.set(DiceRoads.WAGE, 0);
        Table.restAll(x, 1);
        Check.due("it is paid in the end", x.owes(1, 0, 0), 0);
        DiceRoads y = slow(15, 15);
        Table.send(y, 0, 4, 6);
        Table.send(y, 1, 4, 0);
        Check.due("owed by one who has coins", y.owes(1, 0, 0), 0);
    }

    private static void claimedInThatTurn() {
        DiceRoads x = slow(15, 0);
        Table.send(x, 0, 8, 6);
        Table.send(x, 1, 8, 0);
        Table.restAll(x, 1);
        x.set(DiceRoads.WAGE, 15);
        x.set(DiceRoads.DUE, 1);
        Table.rest(x);
        Table.turn(x, 6, 6, 6);
        Check.due("the price is paid", x.count(6), 30);
        Check.due("and the square is lost", x.of(1, 8), 1);
        Check.due("to the creditor", x.ofSquare(2, 1), 0);
        Check.due("nothing is owed", x.owes(1, 0, 0), 0);
    }

    private static void paidInTime() {
        DiceRoads x = slow(15, 15);
        Table.send(x, 0, 8, 6);
        Table.send(x, 1, 6, 6);
        x.set(DiceRoads.DUE, 3);
        x.set(DiceRoads.WAGE, 12);
        Table.send(x, 1, 8, 0);
        Table.restAll(x, 2);
        Check.due("the wage is in the purse", x.of(1, 0), 12);
        Check.due("the debt is as old as DUE", x.owes(1, 0, 1), 3);
        Table.rest(x);
        Table.rest(x);
        Check.due("nothing is lost", x.of(1, 8), 0);
        Check.due("all is paid", x.owes(1, 0, 0), 0);
        Check.due("the purse", x.of(1, 0), 0);
    }
}
