/** The boundary cases of a turn, step by step, and of promise 5: go. */
public final class TurnBoundaryTest {
    public static void main(String[] args) {
        paying();
        moving();
        claiming();
        tolls();
        theNextOne();
        promise5();
        Check.end();
    }

    private static int drawn(int x, int draws) {
        int drawn = x;
        for (int i = 0; i < draws; i++) {
            drawn = (75 * drawn + 74) % 65537;
        }
        return drawn;
    }

    /** Does a turn with these two dice, and checks how many dice are thrown in all. */
    private static void dice(String when, DiceRoads x, int draws, int... dice) {
        x.seed(Table.seedFor(dice));
        int before = x.count(8);
        x.go(1);
        Check.due(when + ": x behind " + draws + " dice", x.count(8), drawn(before, draws));
    }

    // ---- 1. debts

    private static void paying() {
        Check.sentence("A turn, 1", "It pays its debts: as much of each as its purse has.",
                TurnBoundaryTest::asMuchAsThePurseHas);
        Check.sentence("A turn, 1", "the oldest first", TurnBoundaryTest::theOldestFirst);
        Check.sentence("A turn, 1", "of several that of the lowest creditor", TurnBoundaryTest::theLowestCreditorFirst);
        Check.sentence("A turn, 1", "It pays its debts: those to each of the others, down to the last coin",
                TurnBoundaryTest::debtsToEach);
        Check.sentence("A turn", "1. comes before 2.: a wage does not pay a debt in the turn that brings it",
                TurnBoundaryTest::paysBeforeItGoes);
    }

    /** B owes A 12 coins, both are on inns, B has this purse and is next. */
    private static DiceRoads owing12(int purse) {
        DiceRoads x = Table.with(15, 0);
        x.set(DiceRoads.DUE, 20);
        Table.turn(x, 1, 2, 6);
        Table.turn(x, 1, 2);
        Table.restAll(x, 1);
        x.set(DiceRoads.WAGE, purse);
        Table.restAll(x, 1);
        Table.rest(x);
        Check.due("the purse", x.of(1, 0), purse);
        Check.due("the debt", x.owes(1, 0, 0), 12);
        return x;
    }

    private static void asMuchAsThePurseHas() {
        for (int purse : new int[] {0, 1, 11, 12, 13, 99}) {
            DiceRoads x = owing12(purse);
            int creditor = x.of(0, 0);
            int paid = Math.min(purse, 12);
            x.seed(Table.seedFor(5, 5));
            Check.due(purse + ": go(1)", x.go(1), paid);
            Check.due(purse + ": the debt", x.owes(1, 0, 0), 12 - paid);
            Check.due(purse + ": its age", x.owes(1, 0, 1), paid == 12 ? -6 : 4);
            Check.due(purse + ": the purse", x.of(1, 0), purse - paid);
            Check.due(purse + ": the creditor's purse", x.of(0, 0), creditor + paid);
            Check.due(purse + ": tolls paid", x.of(1, 5), paid);
            Check.due(purse + ": tolls got", x.of(0, 6), paid);
        }
    }

    /** C owes B 12 coins since a turn before it came to owe A 12; all are on inns, C has this purse and is next. */
    private static DiceRoads owingTwo(int purse) {
        DiceRoads x = Table.with(15, 15, 0);
        x.set(DiceRoads.WAGE, 0);
        x.set(DiceRoads.DUE, 20);
        Table.send(x, 0, 7, 6);
        Table.send(x, 1, 3, 6);
        Table.send(x, 2, 3, 0);
        Table.send(x, 2, 7, 0);
        Table.restAll(x, 2);
        x.set(DiceRoads.WAGE, purse);
        Table.restUntil(x, () -> x.of(2, 0) >= purse);
        x.set(DiceRoads.WAGE, 0);
        Table.rest(x);
        Table.rest(x);
        Check.that("B's debt is older", x.owes(2, 1, 1) > x.owes(2, 0, 1));
        return x;
    }

    private static void theOldestFirst() {
        int[][] due = {{1, 12, 11}, {11, 12, 1}, {12, 12, 0}, {13, 11, 0}, {23, 1, 0}, {24, 0, 0}, {25, 0, 0}};
        for (int[] row : due) {
            DiceRoads x = owingTwo(row[0]);
            Table.rest(x);
            Check.due("of a purse of " + row[0] + ": A's debt", x.owes(2, 0, 0), row[1]);
            Check.due("of a purse of " + row[0] + ": B's older one", x.owes(2, 1, 0), row[2]);
            Check.due("of a purse of " + row[0] + ": the purse", x.of(2, 0), Math.max(row[0] - 24, 0));
        }
    }

    /** C owes A and B 15 coins each, by a bridge of both; all are on inns, C has this purse and is next. */
    private static DiceRoads owingBoth(int purse, boolean lowestIsFirst) {
        DiceRoads x = Table.with(100, 100, 0);
        x.set(DiceRoads.WAGE, 0);
        x.set(DiceRoads.DUE, 20);
        x.set(DiceRoads.TOLL, 30);
        Table.send(x, lowestIsFirst ? 0 : 1, 5, 6);
        Table.send(x, lowestIsFirst ? 1 : 0, 5, 6);
        Table.send(x, 2, 5, 0);
        Check.due("A's debt", x.owes(2, 0, 0), 15);
        Check.due("B's debt", x.owes(2, 1, 0), 15);
        Table.restAll(x, 1);
        x.set(DiceRoads.WAGE, purse);
        Table.restUntil(x, () -> x.of(2, 0) >= purse);
        Table.rest(x);
        Table.rest(x);
        return x;
    }

    private static void theLowestCreditorFirst() {
        int[][] due = {{1, 14, 15}, {14, 1, 15}, {15, 0, 15}, {16, 0, 14}, {29, 0, 1}, {30, 0, 0}, {31, 0, 0}};
        for (int[] row : due) {
            for (boolean lowestIsFirst : new boolean[] {true, false}) {
                DiceRoads x = owingBoth(row[0], lowestIsFirst);
                x.set(DiceRoads.WAGE, 0);
                Table.rest(x);
                Check.due("of a purse of " + row[0] + ": A's debt", x.owes(2, 0, 0), row[1]);
                Check.due("of a purse of " + row[0] + ": B's debt of the same age", x.owes(2, 1, 0), row[2]);
            }
        }
    }

    private static void debtsToEach() {
        for (int debtor = 0; debtor < 4; debtor++) {
            for (int creditor = 0; creditor < 4; creditor++) {
                if (debtor == creditor) {
                    continue;
                }
                int[][] coins = new int[4][4];
                coins[debtor][creditor] = 8;
                DiceRoads x = Debtors.owing(coins);
                x.set(DiceRoads.WAGE, 7);
                Table.restAll(x, 3);
                Check.due("one coin is left", x.owes(debtor, creditor, 0), 1);
                x.set(DiceRoads.WAGE, 1);
                Table.restAll(x, 2);
                Check.due("no coin is left", x.owes(debtor, creditor, 0), 0);
                Check.due("paid", x.of(debtor, 5), 8);
                Check.due("got", x.of(creditor, 6), 8);
            }
            int[][] all = new int[4][4];
            for (int creditor = 0; creditor < 4; creditor++) {
                all[debtor][creditor] = creditor == debtor ? 0 : 2;
            }
            DiceRoads x = Debtors.owing(all);
            x.set(DiceRoads.WAGE, 6);
            Table.restAll(x, 2);
            Table.restAll(x, 1);
            Check.due("three debts are paid at once", x.count(3), 0);
            Check.due("by " + debtor, x.of(debtor, 5), 6);
        }
    }

    private static void paysBeforeItGoes() {
        DiceRoads x = owing12(0);
        Table.restAll(x, 1);
        x.set(DiceRoads.WAGE, 99);
        Table.rest(x);
        Check.due("the wage stays in the purse", x.of(1, 0), 99);
        Check.due("the debt stays", x.owes(1, 0, 0), 12);
        Table.restAll(x, 1);
        Check.due("a turn later it is paid", x.owes(1, 0, 0), 0);
        Check.due("out of the purse", x.of(1, 0), 87);
    }

    // ---- 2. going around

    private static void moving() {
        Check.sentence("A turn, 2", "It throws two dice, and goes as many squares as both are together",
                TurnBoundaryTest::fromTwoToTwelve);
        Check.sentence("A turn, 2", "around the ring", TurnBoundaryTest::aroundTheRing);
        Check.sentence("A turn, 2", "for each time that it comes to the square 0, or goes past it, it gets WAGE.",
                TurnBoundaryTest::wagesAtTheSquareZero);
    }

    private static void fromTwoToTwelve() {
        for (int first = 1; first <= 6; first++) {
            for (int second = 1; second <= 6; second++) {
                DiceRoads x = Table.with(0);
                Table.turn(x, first, second);
                Check.due(first + " and " + second, x.of(0, 1), first + second);
            }
        }
    }

    private static void aroundTheRing() {
        for (int start : new int[] {8, 9, 11, 18, 19}) {
            for (int way = 2; way <= 12; way++) {
                DiceRoads x = Table.with(0);
                Table.send(x, 0, start, 1);
                Table.turn(x, way / 2, way - way / 2);
                int due = start + way >= 20 ? start + way - 20 : start + way;
                Check.due("from " + start + " by " + way, x.of(0, 1), due);
                Check.due("the players on " + due, x.ofSquare(due, 4), 1);
            }
        }
    }

    private static void wagesAtTheSquareZero() {
        // from each start to the square 19, to 0, and past it
        int[][] ways = {{8, 11, 0}, {8, 12, 20}, {10, 9, 0}, {10, 10, 20}, {10, 11, 20}, {18, 2, 20}, {19, 12, 20},
            {0, 12, 0}, {0, 2, 0}, {17, 2, 0}};
        for (int[] way : ways) {
            DiceRoads x = Table.with(0);
            x.set(DiceRoads.CLAIM, 7);
            if (way[0] > 0) {
                Table.send(x, 0, way[0], 0);
            }
            Check.due("no wage before", x.count(7), 0);
            Table.turn(x, way[1] / 2, way[1] - way[1] / 2);
            Check.due("from " + way[0] + " by " + way[1] + ": the purse", x.of(0, 0), way[2]);
            Check.due("from " + way[0] + " by " + way[1] + ": the wages", x.count(7), way[2]);
        }
    }

    // ---- 3. claiming

    private static void claiming() {
        Check.sentence("A turn, 3", "If it does not own the square to which it came (as first or second owner)",
                TurnBoundaryTest::noDieForAnOwner);
        Check.sentence("A turn, 3", "and that is a road without an owner, or a bridge with fewer than two",
                TurnBoundaryTest::aDieForWhatIsFree);
        Check.sentence("A turn, 3", "it throws one more die (whatever its purse has)",
                TurnBoundaryTest::aDieWhateverThePurseHas);
        Check.sentence("A turn, 3", "if that is at least CLAIM", TurnBoundaryTest::aDieOfClaim);
        Check.sentence("A turn, 3", "and its purse has PRICE or more, it claims the square, and pays PRICE",
                TurnBoundaryTest::aPurseOfPrice);
        Check.sentence("A turn, 3", "for the second part of a bridge to the first owner, otherwise to nobody.",
                TurnBoundaryTest::whoGetsThePrice);
    }

    private static void noDieForAnOwner() {
        DiceRoads road = Table.with(100);
        Table.send(road, 0, 12, 6);
        Table.rest(road);
        dice("its own road", road, 2, 6, 6, 6);
        Check.due("no price twice", road.count(6), 15);

        DiceRoads first = Table.with(100);
        Table.send(first, 0, 5, 6);
        Table.restAll(first, 2);
        dice("the first owner, with a part that is free", first, 2, 2, 3, 6);
        Check.due("no second part", first.ofSquare(5, 2), -6);
        Check.due("no toll", first.of(0, 5), 0);

        DiceRoads second = Table.with(100, 100);
        Table.send(second, 0, 5, 6);
        Table.send(second, 1, 5, 6);
        Table.restAll(second, 2);
        Table.rest(second);
        int purse = second.of(1, 0);
        dice("the second owner", second, 2, 2, 3, 6);
        Check.due("it is there", second.of(1, 1), 5);
        Check.due("no toll for the second owner", second.of(1, 0), purse);
        Check.due("no toll for the first owner", second.of(0, 6), 0);
    }

    private static void aDieForWhatIsFree() {
        dice("an inn", Table.with(100), 2, 5, 5, 6);
        dice("a road without an owner", Table.with(100), 3, 1, 1, 1);
        dice("a bridge with none", Table.with(100), 3, 2, 3, 1);
        DiceRoads x = Table.with(100, 100, 100, 100);
        Table.turn(x, 1, 1, 6);
        dice("a road with an owner", x, 2, 1, 1, 6);

        DiceRoads bridge = Table.with(100, 100, 100, 100);
        Table.turn(bridge, 2, 3, 6);
        dice("a bridge with one", bridge, 3, 2, 3, 6);
        dice("a bridge with two", bridge, 2, 2, 3, 6);
        Check.due("its first one", bridge.ofSquare(5, 1), 0);
        Check.due("its second one", bridge.ofSquare(5, 2), 1);
    }

    private static void aDieWhateverThePurseHas() {
        for (int purse : new int[] {0, 14, 15, 9999}) {
            dice("a purse of " + purse + " on a road", Table.with(purse), 3, 1, 2, 6);
            DiceRoads x = Table.with(100, purse);
            Table.turn(x, 2, 3, 6);
            dice("a purse of " + purse + " on another one's bridge", x, 3, 2, 3, 6);
        }
    }

    private static void aDieOfClaim() {
        int[][] dice = {{3, 2, 0}, {3, 3, 1}, {3, 4, 1}, {6, 5, 0}, {6, 6, 1}, {1, 1, 1}, {7, 6, 0}};
        for (int[] row : dice) {
            DiceRoads x = Table.with(15);
            x.set(DiceRoads.CLAIM, row[0]);
            Table.turn(x, 2, 3, row[1]);
            Check.due("a die of " + row[1] + " with a CLAIM of " + row[0], x.of(0, 2), row[2] << 5);
            Check.due("the purse", x.of(0, 0), row[2] == 1 ? 0 : 15);
        }
    }

    private static void aPurseOfPrice() {
        for (int square : new int[] {3, 5}) {
            int[][] purses = {{0, 0, 0}, {14, 14, 0}, {15, 0, 1}, {16, 1, 1}};
            for (int[] purse : purses) {
                DiceRoads x = Table.with(purse[0]);
                Table.send(x, 0, square, 6);
                Check.due("a purse of " + purse[0] + " claims", x.of(0, 2), purse[2] << square);
                Check.due("a purse of " + purse[0] + " becomes", x.of(0, 0), purse[1]);
            }
        }
        for (int wage = 14; wage <= 15; wage++) {
            DiceRoads x = Table.with(0);
            x.set(DiceRoads.WAGE, wage);
            Table.rest(x);
            Table.turn(x, 6, 6, 6);
            Check.due("a wage of " + wage + " in the same turn claims", x.of(0, 2), wage == 15 ? 1 << 2 : 0);
        }
        DiceRoads x = owing12(26);
        Table.turn(x, 1, 1, 6);
        Check.due("a purse of 14 behind the debts does not claim", x.of(1, 2), 0);
        DiceRoads y = owing12(27);
        Table.turn(y, 1, 1, 6);
        Check.due("a purse of 15 behind the debts does", y.of(1, 2), 1 << 2);
    }

    private static void whoGetsThePrice() {
        DiceRoads x = Table.with(100, 15, 15);
        Table.turn(x, 2, 3, 6);
        Check.due("the first part: to nobody", x.count(6), 15);
        Check.due("the first owner's purse", x.of(0, 0), 85);
        Table.turn(x, 2, 3, 6);
        Check.due("the second part: not to nobody", x.count(6), 15);
        Check.due("but to the first owner", x.of(0, 0), 100);
        Check.due("the second owner's purse", x.of(1, 0), 0);
        Table.turn(x, 1, 1, 6);
        Check.due("a road: to nobody", x.count(6), 30);
        Check.due("no purse but its own is other", x.count(4), 100);
        Check.due("prices are no tolls paid", x.of(1, 5), 0);
        Check.due("prices are no tolls got", x.of(0, 6), 0);
    }

    // ---- the toll

    private static void tolls() {
        Check.sentence("A turn, 3", "If it does not own the square then, and somebody does: the toll is due",
                TurnBoundaryTest::whenATollIsDue);
        Check.sentence("A turn, 3", "to the one owner, or, of a bridge with two, half of it to the second one, the rest "
                + "to the first one.", TurnBoundaryTest::whoGetsTheToll);
        Check.sentence("A turn, 3", "It pays as much as its purse has; what is missing it owes.",
                TurnBoundaryTest::whatIsMissingOfAToll);
        Check.sentence("A turn, 3", "It pays the first one, then the second one",
                TurnBoundaryTest::theFirstOwnerIsPaidFirst);
        Check.sentence("A turn, 3", "what is missing it owes: an old debt grows and keeps its age",
                TurnBoundaryTest::anOldDebtGrows);
    }

    private static void whenATollIsDue() {
        DiceRoads x = Table.with(100, 100, 100);
        Check.due("nobody owns it", Table.turn(x, 2, 3, 1), 0);
        Check.due("it owns it by its claim", Table.turn(x, 2, 3, 6), 0);
        Check.due("a die too low for the second part", Table.turn(x, 2, 3, 2), 6);
        Check.due("an inn", Table.turn(x, 2, 3), 0);
        DiceRoads y = Table.with(100, 14, 15);
        Table.turn(y, 2, 3, 6);
        Check.due("a purse too small for the second part", Table.turn(y, 2, 3, 6), 6);
        Check.due("of the second part it owns", Table.turn(y, 2, 3, 6), 0);
    }

    private static void whoGetsTheToll() {
        int[] tolls = {1, 2, 3, 98, 99};
        for (int toll : tolls) {
            DiceRoads one = Table.with(15, 9999);
            one.set(DiceRoads.TOLL, toll);
            Table.turn(one, 2, 3, 6);
            Check.due(toll + ": to the one owner", Table.turn(one, 2, 3, 1), toll);
            Check.due(toll + ": it gets all", one.of(0, 0), toll);

            DiceRoads two = Table.with(15, 15, 9999);
            two.set(DiceRoads.TOLL, toll);
            Table.turn(two, 2, 3, 6);
            Table.turn(two, 2, 3, 6);
            Check.due(toll + ": to both", Table.turn(two, 2, 3), toll);
            Check.due(toll + ": the second one's half", two.of(1, 0), toll / 2);
            Check.due(toll + ": the rest", two.of(0, 0), 15 + toll - toll / 2);
        }
        DiceRoads x = Table.with(15, 15, 0);
        x.set(DiceRoads.TOLL, 1);
        Table.turn(x, 2, 3, 6);
        Table.turn(x, 2, 3, 6);
        Table.turn(x, 2, 3);
        Check.due("1: owed to the first one", x.owes(2, 0, 0), 1);
        Check.due("1: half of it is nothing", x.owes(2, 1, 0), 0);
        Check.due("1: so that is no debt", x.owes(2, 1, 1), -6);
    }

    private static void whatIsMissingOfAToll() {
        for (int purse : new int[] {0, 1, 11, 12, 13}) {
            DiceRoads x = Table.with(15, purse);
            Table.turn(x, 1, 2, 6);
            int paid = Math.min(purse, 12);
            Check.due(purse + ": paid", Table.turn(x, 1, 2), paid);
            Check.due(purse + ": owed", x.owes(1, 0, 0), 12 - paid);
            Check.due(purse + ": the age", x.owes(1, 0, 1), paid == 12 ? -6 : 1);
            Check.due(purse + ": debts", x.count(3), paid == 12 ? 0 : 1);
            Check.due(purse + ": the purse", x.of(1, 0), purse - paid);
            Check.due(purse + ": the owner's purse", x.of(0, 0), paid);
        }
    }

    private static void theFirstOwnerIsPaidFirst() {
        // a toll of 7: 4 and 3
        int[][] due = {{0, 4, 3}, {1, 3, 3}, {3, 1, 3}, {4, 0, 3}, {5, 0, 2}, {6, 0, 1}, {7, 0, 0}, {8, 0, 0}};
        for (int[] row : due) {
            for (int first = 0; first < 2; first++) {
                DiceRoads x = Table.with(100, 100, row[0]);
                x.set(DiceRoads.TOLL, 7);
                x.set(DiceRoads.WAGE, 0);
                Table.send(x, first, 5, 6);
                Table.send(x, 1 - first, 5, 6);
                Table.send(x, 2, 5, 0);
                Check.due("a purse of " + row[0] + " owes the first", x.owes(2, first, 0), row[1]);
                Check.due("a purse of " + row[0] + " owes the second", x.owes(2, 1 - first, 0), row[2]);
                Check.due("age of the first's", x.owes(2, first, 1), row[1] == 0 ? -6 : 1);
                Check.due("age of the second's", x.owes(2, 1 - first, 1), row[2] == 0 ? -6 : 1);
                Check.due("paid", x.of(2, 5), 7 - row[1] - row[2]);
            }
        }
    }

    private static void anOldDebtGrows() {
        DiceRoads x = owing12(0);
        Table.rest(x);
        int age = x.owes(1, 0, 1);
        Check.due("the age", age, 4);
        Table.restAll(x, 1);
        Table.rest(x);
        Table.turn(x, 1, 2);
        Check.due("the debt", x.owes(1, 0, 0), 24);
        Check.due("the age goes on", x.owes(1, 0, 1), 6);
        Check.due("one debt", x.count(3), 1);
    }

    // ---- the next player

    private static void theNextOne() {
        Check.sentence("A turn", "Then the next player is next (behind the last one the first).", () -> {
            for (int players = 1; players <= 4; players++) {
                DiceRoads x = new DiceRoads();
                for (int i = 0; i < players; i++) {
                    x.player(100);
                }
                for (int turn = 0; turn < 9; turn++) {
                    Check.due(players + " players: next", x.count(2), turn % players);
                    Check.due("its turns", x.of(turn % players, 7), turn / players);
                    x.go(1);
                    Check.due("its turns then", x.of(turn % players, 7), turn / players + 1);
                }
            }
        });
        Check.sentence("A turn", "(behind the last one the first), also if one more comes", () -> {
            DiceRoads x = Table.with(5);
            x.go(1);
            x.player(5);
            Check.due("the only one was the last one", x.count(2), 0);
            x.go(1);
            Check.due("now another one is", x.count(2), 1);
            x.player(5);
            x.go(1);
            Check.due("now a third one is", x.count(2), 2);
            x.go(1);
            Check.due("behind it the first", x.count(2), 0);
        });
    }

    // ---- promise 5

    private static void promise5() {
        Check.sentence("Promise 5", "turns: 1 to 99", () -> {
            DiceRoads x = Table.with(5, 5);
            Check.that("go(1)", x.go(1) >= 0);
            Check.due("turns", x.count(0), 1);
            Check.that("go(99)", x.go(99) >= 0);
            Check.due("turns", x.count(0), 100);
        });
        Check.sentence("Promise 5", "BAD_VALUE if turns is out of range", () -> {
            DiceRoads x = Table.with(5, 5);
            for (int turns : new int[] {0, -1, 100, Integer.MIN_VALUE, Integer.MAX_VALUE}) {
                Check.due("go(" + turns + ")", x.go(turns), -2);
            }
            Check.due("turns", x.count(0), 0);
            Check.due("nothing is recorded", x.count(16), 2);
        });
        Check.sentence("Promise 5", "NOT_POSSIBLE if there is no player", () -> {
            DiceRoads x = new DiceRoads();
            Check.due("go(1)", x.go(1), -5);
            Check.due("go(99)", x.go(99), -5);
            Check.due("x", x.count(8), 1);
            x.player(0);
            Check.due("with one", x.go(1), 0);
            x.undo();
            x.undo();
            Check.due("without it again", x.go(1), -5);
        });
        Check.sentence("Promise 5", "NOT_POSSIBLE if there would be more than 9999 turns",
                TurnBoundaryTest::theBoundOfTurns);
        Check.sentence("Promise 5", "Returns the coins of tolls that are paid in them (debts that are paid too)",
                TurnBoundaryTest::coinsOfTolls);
        Check.sentence("Promise 5", "This is a change.", () -> {
            DiceRoads x = Table.with(100, 100);
            String before = Table.all(x);
            x.go(99);
            Check.due("one for all turns", x.count(16), 3);
            Check.due("undo()", x.undo(), 2);
            Check.due("all of them are undone", Table.all(x), before);
        });
    }

    private static void theBoundOfTurns() {
        DiceRoads x = Table.with(5, 5);
        Table.advance(x, 9900);
        x.save(0);
        Check.that("9900 and 99", x.go(99) >= 0);
        Check.due("turns", x.count(0), 9999);
        Check.due("one more", x.go(1), -5);
        Check.due("99 more", x.go(99), -5);
        x.restore(0);
        x.go(1);
        Check.due("9901 and 99", x.go(99), -5);
        Check.due("turns", x.count(0), 9901);
        Check.that("9901 and 98", x.go(98) >= 0);
        x.undo();
        x.go(97);
        Check.due("9998 and 2", x.go(2), -5);
        Check.that("9998 and 1", x.go(1) >= 0);
        x.undo();
        Check.that("9998 and 1, once more behind an undo", x.go(1) >= 0);
    }

    private static void coinsOfTolls() {
        DiceRoads x = Table.with(100, 8);
        Check.due("a price to nobody", Table.turn(x, 1, 2, 6), 0);
        Check.due("a toll in part", Table.turn(x, 1, 2), 8);
        Table.restAll(x, 2);
        Table.rest(x);
        Check.due("a debt that is paid", Table.turn(x, 5, 5), 4);
        DiceRoads y = Table.with(100, 100);
        y.go(99);
        int before = y.of(0, 5) + y.of(1, 5);
        int coins = y.go(99);
        Check.due("all turns together", coins, y.of(0, 5) + y.of(1, 5) - before);
        Check.due("as much as is got", y.of(0, 5) + y.of(1, 5), y.of(0, 6) + y.of(1, 6));
        DiceRoads z = Table.with(100);
        Check.due("none without another one", z.go(99), 0);
        DiceRoads w = Table.with(15, 15);
        w.set(DiceRoads.WAGE, 0);
        w.set(DiceRoads.DUE, 1);
        Table.send(w, 0, 4, 6);
        Table.send(w, 1, 2, 6);
        Check.due("nothing is paid by an empty purse", Table.send(w, 1, 4, 0), 0);
        Table.rest(w);
        Check.due("nor by a square that is lost", Table.turn(w, 3, 3), 0);
        Check.due("but it is lost", w.of(1, 8), 1);
    }
}
