/** Promise 5: go, step by step. */
public final class TurnsTest {
    public static void main(String[] args) {
        goErrors();
        goBoundOfTurns();
        goRecordsOneChange();
        movesAndWages();
        innsThrowNoThirdDie();
        claimByDieAndPurse();
        theDieIsThrownWithAnEmptyPurse();
        ownSquareCostsNothing();
        secondPartOfABridgeIsPaidToTheFirstOwner();
        tollsGrowWithRoadsOfTheGroup();
        bridgeTollWithOneOwner();
        bridgeTollIsHalved();
        whatIsMissingIsOwed();
        debtsArePaidOldestFirst();
        debtsOfOneAgeArePaidLowestCreditorFirst();
        dueDebtCostsTheLowestSquare();
        dueDebtWithoutASquareStays();
        dueDebtsOneByOne();
        lostPartsOfBridges();
        Check.end();
    }

    private static void goErrors() {
        DiceRoads x = new DiceRoads();
        Check.due("go(0) without players", x.go(0), -2);
        Check.due("go(100) without players", x.go(100), -2);
        Check.due("go(MIN)", x.go(Integer.MIN_VALUE), -2);
        Check.due("go(MAX)", x.go(Integer.MAX_VALUE), -2);
        Check.due("go(1) without players", x.go(1), -5);
        x.player(3);
        Check.due("go(0)", x.go(0), -2);
        Check.due("go(100)", x.go(100), -2);
        Check.due("go(99)", x.go(99), 0);
        Check.due("turns", x.count(0), 99);
    }

    private static void goBoundOfTurns() {
        DiceRoads x = Table.with(10);
        for (int i = 0; i < 100; i++) {
            x.go(99);
        }
        x.go(98);
        Check.due("9998 turns", x.count(0), 9998);
        Check.due("go(2) beyond 9999", x.go(2), -5);
        Check.due("go(99) beyond 9999", x.go(99), -5);
        Check.due("still 9998", x.count(0), 9998);
        Check.due("go(1) to 9999", x.go(1), 0);
        Check.due("go(1) beyond 9999", x.go(1), -5);
        Check.due("a wrong value goes first", x.go(100), -2);
        Check.due("turns of the player", x.of(0, 7), 9999);
    }

    private static void goRecordsOneChange() {
        DiceRoads x = Table.with(100, 100);
        String before = Table.all(x);
        x.go(7);
        Check.due("recorded", x.count(16), 3);
        x.undo();
        Check.due("undone", Table.all(x), before);
    }

    private static void movesAndWages() {
        DiceRoads x = Table.with(0);
        Table.turn(x, 6, 6, 1);
        Check.due("from 0 by 12", x.of(0, 1), 12);
        Check.due("no wage yet", x.of(0, 0), 0);
        Table.turn(x, 4, 4);
        Check.due("to 0", x.of(0, 1), 0);
        Check.due("a wage on coming to 0", x.of(0, 0), 20);
        Table.turn(x, 4, 6);
        Check.due("none for starting from 0", x.of(0, 0), 20);
        x.set(DiceRoads.WAGE, 7);
        Table.turn(x, 6, 6, 1);
        Check.due("past 0", x.of(0, 1), 2);
        Check.due("a wage on going past 0", x.of(0, 0), 27);
        Check.due("wages are coins", x.count(7), 27);
        Check.due("turns", x.count(0), 4);
        Check.due("turns of the player", x.of(0, 7), 4);
    }

    private static void innsThrowNoThirdDie() {
        DiceRoads x = Table.with(100);
        x.seed(Table.seedFor(5, 5));
        int seed = x.count(8);
        x.go(1);
        Check.due("at the inn", x.of(0, 1), 10);
        Check.due("x behind two dice", x.count(8), next(next(seed)));
        Check.due("no owner of an inn", x.ofSquare(10, 1), -6);
        Check.due("purse", x.of(0, 0), 100);
    }

    private static int next(int x) {
        return (75 * x + 74) % 65537;
    }

    private static void claimByDieAndPurse() {
        DiceRoads x = Table.with(15, 14, 15);
        Table.turn(x, 1, 2, 3);
        Check.due("a die of CLAIM and a purse of PRICE claim", x.ofSquare(3, 1), 0);
        Check.due("the price is paid", x.of(0, 0), 0);
        Check.due("to nobody", x.count(6), 15);
        Table.turn(x, 1, 1, 6);
        Check.due("a purse below PRICE does not", x.ofSquare(2, 1), -6);
        Check.due("and keeps it", x.of(1, 0), 14);
        Table.turn(x, 1, 3, 2);
        Check.due("a die below CLAIM does not", x.ofSquare(4, 1), -6);
        Check.due("text", Table.text(x), "o--B-aA-C=----o----=----");
        x.set(DiceRoads.CLAIM, 7);
        x.set(DiceRoads.PRICE, 1);
        x.set(DiceRoads.WAGE, 99);
        x.go(99);
        Check.due("no die claims by 7", x.count(6), 15);
    }

    private static void theDieIsThrownWithAnEmptyPurse() {
        DiceRoads x = Table.with(0);
        x.seed(Table.seedFor(1, 2));
        int seed = x.count(8);
        x.go(1);
        Check.due("x behind three dice", x.count(8), next(next(next(seed))));
    }

    private static void ownSquareCostsNothing() {
        DiceRoads x = Table.with(100);
        Table.turn(x, 2, 3, 6);
        Check.due("the bridge", x.ofSquare(5, 1), 0);
        Table.turn(x, 2, 3);
        Table.turn(x, 5, 5);
        x.seed(Table.seedFor(2, 3, 6));
        int seed = x.count(8);
        Check.due("no toll", x.go(1), 0);
        Check.due("no third die", x.count(8), next(next(seed)));
        Check.due("not twice", x.ofSquare(5, 2), -6);
        Check.due("purse", x.of(0, 0), 105);
    }

    private static void secondPartOfABridgeIsPaidToTheFirstOwner() {
        DiceRoads x = Table.with(100, 50);
        Table.turn(x, 2, 3, 6);
        Check.due("to nobody", x.count(6), 15);
        Check.due("not a toll", Table.turn(x, 2, 3, 6), 0);
        Check.due("still to nobody", x.count(6), 15);
        Check.due("first", x.ofSquare(5, 1), 0);
        Check.due("second", x.ofSquare(5, 2), 1);
        Check.due("purse of the first", x.of(0, 0), 100);
        Check.due("purse of the second", x.of(1, 0), 35);
        Check.due("paid", x.of(1, 5), 0);
        Check.due("got", x.of(0, 6), 0);
        Check.due("text", Table.text(x), "o----=abAB----o----=----");
    }

    private static void tollsGrowWithRoadsOfTheGroup() {
        DiceRoads x = Table.with(500, 500);
        Table.turn(x, 1, 2, 6);
        Check.due("toll with one road", x.ofSquare(3, 3), 12);
        Check.due("paid", Table.turn(x, 1, 2), 12);
        Check.due("purse of the payer", x.of(1, 0), 488);
        Check.due("purse of the owner", x.of(0, 0), 497);
        Check.due("paid so far", x.of(1, 5), 12);
        Check.due("got so far", x.of(0, 6), 12);
        Table.turn(x, 1, 1, 6);
        Check.due("toll of a bridge", x.ofSquare(5, 3), 6);
        Table.turn(x, 1, 3, 6);
        Table.turn(x, 1, 2, 6);
        Check.due("A has a road", x.ofSquare(8, 1), 0);
        Check.due("the bridge grows with it", x.ofSquare(5, 3), 12);
        Check.due("the bridge is no road", x.ofSquare(8, 3), 12);
        Check.due("a road of the other one does not count", x.ofSquare(7, 3), 12);
        Table.turn(x, 1, 2);
        Table.turn(x, 1, 1);
        Table.turn(x, 5, 5);
        Table.turn(x, 5, 5);
        Table.turn(x, 4, 5, 1);
        Table.turn(x, 3, 3, 6);
        Check.due("A has two roads", x.ofSquare(6, 1), 0);
        Check.due("three times for the bridge", x.ofSquare(5, 3), 18);
        Check.due("three times for a road", x.ofSquare(6, 3), 18);
        Check.due("the other group stays", x.ofSquare(3, 3), 12);
        x.set(DiceRoads.TOLL, 10);
        Check.due("the setting counts at once", x.ofSquare(6, 3), 30);
        Check.due("nobody's road", x.ofSquare(9, 3), 0);
        Check.due("an inn", x.ofSquare(0, 3), 0);
    }

    private static void bridgeTollWithOneOwner() {
        DiceRoads x = Table.with(100, 14);
        Table.turn(x, 2, 3, 6);
        Check.due("all of it to the one owner", Table.turn(x, 2, 3, 6), 6);
        Check.due("no part", x.ofSquare(5, 2), -6);
        Check.due("got", x.of(0, 6), 6);
    }

    private static void bridgeTollIsHalved() {
        DiceRoads x = Table.with(100, 100, 100);
        x.set(DiceRoads.TOLL, 7);
        Table.turn(x, 2, 3, 6);
        Table.turn(x, 2, 3, 6);
        Check.due("both parts", Table.turn(x, 2, 3), 7);
        Check.due("the rest to the first", x.of(0, 6), 4);
        Check.due("half to the second", x.of(1, 6), 3);
        Check.due("paid", x.of(2, 5), 7);

        DiceRoads y = Table.with(100, 100, 5);
        y.set(DiceRoads.TOLL, 7);
        Table.turn(y, 2, 3, 6);
        Table.turn(y, 2, 3, 6);
        Check.due("the first one goes first", Table.turn(y, 2, 3), 5);
        Check.due("first gets all", y.of(0, 6), 4);
        Check.due("second gets the rest of the purse", y.of(1, 6), 1);
        Check.due("owes the first", y.owes(2, 0, 0), 0);
        Check.due("owes the second", y.owes(2, 1, 0), 2);
        Check.due("age of no debt", y.owes(2, 0, 1), -6);
        Check.due("age", y.owes(2, 1, 1), 1);
    }

    private static void whatIsMissingIsOwed() {
        DiceRoads x = Table.with(100, 5);
        Table.turn(x, 1, 2, 6);
        Check.due("as much as the purse has", Table.turn(x, 1, 2), 5);
        Check.due("owes", x.owes(1, 0, 0), 7);
        Check.due("one turn old", x.owes(1, 0, 1), 1);
        Check.due("the other way", x.owes(0, 1, 0), 0);
        Table.turn(x, 3, 4);
        Check.due("turns of others do not age it", x.owes(1, 0, 1), 1);
        Table.turn(x, 3, 4);
        Check.due("own ones do", x.owes(1, 0, 1), 2);
        Table.turn(x, 5, 5);
        Table.turn(x, 5, 5);
        Check.due("the wage comes behind the paying", x.owes(1, 0, 0), 7);
        Table.turn(x, 5, 5);
        Check.due("debts are tolls", Table.turn(x, 5, 5), 7);
        Check.due("paid", x.of(1, 5), 12);
        Check.due("got", x.of(0, 6), 12);
        Check.due("purse", x.of(1, 0), 13);
        Check.due("no debt", x.owes(1, 0, 1), -6);
    }

    /** C owes B since its first turn and A since its second one. */
    private static DiceRoads debtsOfTwoAges() {
        DiceRoads x = Table.with(100, 100, 0);
        x.set(DiceRoads.DUE, 20);
        Table.turn(x, 4, 3, 6);
        Table.turn(x, 1, 2, 6);
        Table.turn(x, 1, 2);
        Table.turn(x, 1, 2);
        Table.turn(x, 3, 4);
        Table.turn(x, 1, 3);
        return x;
    }

    private static void debtsArePaidOldestFirst() {
        DiceRoads x = debtsOfTwoAges();
        Check.due("owes B", x.owes(2, 1, 0), 12);
        Check.due("age of B's", x.owes(2, 1, 1), 2);
        Check.due("owes A", x.owes(2, 0, 0), 12);
        Check.due("age of A's", x.owes(2, 0, 1), 1);
        Table.turn(x, 5, 5);
        Table.turn(x, 5, 5);
        Table.turn(x, 1, 2);
        x.set(DiceRoads.WAGE, 17);
        Table.turn(x, 5, 5);
        Table.turn(x, 5, 5);
        Table.turn(x, 5, 5);
        Check.due("wage", x.of(2, 0), 17);
        Table.turn(x, 5, 5);
        Table.turn(x, 5, 5);
        Check.due("both are paid in part", Table.turn(x, 5, 5), 17);
        Check.due("B is paid first", x.owes(2, 1, 0), 0);
        Check.due("then A", x.owes(2, 0, 0), 7);
        Check.due("a part keeps the age", x.owes(2, 0, 1), 4);
    }

    private static void debtsOfOneAgeArePaidLowestCreditorFirst() {
        DiceRoads x = Table.with(100, 100, 0);
        x.set(DiceRoads.TOLL, 30);
        Table.turn(x, 2, 3, 6);
        Table.turn(x, 2, 3, 6);
        Table.turn(x, 2, 3);
        Check.due("owes the first", x.owes(2, 0, 0), 15);
        Check.due("owes the second", x.owes(2, 1, 0), 15);
        Table.turn(x, 2, 3);
        Table.turn(x, 2, 3);
        Table.turn(x, 2, 3);
        Table.turn(x, 5, 5);
        Table.turn(x, 5, 5);
        Table.turn(x, 5, 5);
        Table.turn(x, 5, 5);
        Table.turn(x, 5, 5);
        Check.due("a wage of 20 for 15 and 5", Table.turn(x, 5, 5), 20);
        Check.due("the lowest is paid", x.owes(2, 0, 0), 0);
        Check.due("then the other", x.owes(2, 1, 0), 10);
    }

    private static void dueDebtCostsTheLowestSquare() {
        DiceRoads x = Table.with(100, 30);
        x.set(DiceRoads.DUE, 1);
        Table.turn(x, 3, 5, 6);
        Table.turn(x, 1, 2, 6);
        Table.turn(x, 1, 1);
        Table.turn(x, 1, 1, 6);
        Check.due("squares of B", x.of(1, 2), 1 << 3 | 1 << 5);
        Table.turn(x, 5, 5);
        Table.turn(x, 1, 2);
        Check.due("owes", x.owes(1, 0, 0), 12);
        Check.due("not older than DUE", x.of(1, 8), 0);
        Table.turn(x, 5, 5);
        Table.turn(x, 1, 1);
        Check.due("lost one", x.of(1, 8), 1);
        Check.due("the lowest one", x.of(1, 2), 1 << 5);
        Check.due("to the creditor", x.of(0, 2), 1 << 3 | 1 << 8);
        Check.due("owes nothing any more", x.owes(1, 0, 0), 0);
        Check.due("no age", x.owes(1, 0, 1), -6);
        Check.due("a square is no toll paid", x.of(1, 5), 0);
        Check.due("nor got", x.of(0, 6), 0);
    }

    private static void dueDebtWithoutASquareStays() {
        DiceRoads x = Table.with(100, 0);
        x.set(DiceRoads.DUE, 1);
        Table.turn(x, 1, 2, 6);
        Table.turn(x, 1, 2);
        Table.turn(x, 3, 4);
        Table.turn(x, 3, 4);
        Check.due("stays", x.owes(1, 0, 0), 12);
        Check.due("grows older", x.owes(1, 0, 1), 2);
        Check.due("lost none", x.of(1, 8), 0);
    }

    private static void dueDebtsOneByOne() {
        DiceRoads x = debtsOfTwoAges();
        // C, without a debt paid, gets one road of its own, by a wage that it keeps for the price
        x.set(DiceRoads.WAGE, 39);
        Table.turn(x, 5, 5);
        Table.turn(x, 5, 5);
        Table.turn(x, 1, 2);
        x.save(0);
        Table.turn(x, 5, 5);
        Table.turn(x, 5, 5);
        Table.turn(x, 6, 6, 6);
        Check.due("C has a road", x.of(2, 2), 1 << 2);
        Check.due("and the rest of the wage", x.of(2, 0), 24);
        x.set(DiceRoads.DUE, 2);
        x.seed(1);
        Table.turn(x, 5, 5);
        Table.turn(x, 5, 5);
        Check.due("both debts are paid before they are due", Table.turn(x, 5, 3), 24);
        Check.due("no square lost", x.of(2, 8), 0);
        x.restore(0);
        x.set(DiceRoads.WAGE, 15);
        Table.turn(x, 5, 5);
        Table.turn(x, 5, 5);
        x.set(DiceRoads.DUE, 1);
        Table.turn(x, 6, 6, 6);
        Check.due("the new road goes to the oldest debt's creditor", x.ofSquare(2, 1), 1);
        Check.due("its debt is gone", x.owes(2, 1, 0), 0);
        Check.due("the other one stays without a square", x.owes(2, 0, 0), 12);
        Check.due("lost", x.of(2, 8), 1);
    }

    private static void lostPartsOfBridges() {
        DiceRoads first = bridgeOfBAndC(true);
        Check.due("B and C", first.ofSquare(5, 1) * 10 + first.ofSquare(5, 2), 12);
        loseToA(first);
        Check.due("A is first", first.ofSquare(5, 1), 0);
        Check.due("C stays second", first.ofSquare(5, 2), 2);

        DiceRoads second = bridgeOfBAndC(false);
        Check.due("C and B", second.ofSquare(5, 1) * 10 + second.ofSquare(5, 2), 21);
        loseToA(second);
        Check.due("C stays first", second.ofSquare(5, 1), 2);
        Check.due("A is second", second.ofSquare(5, 2), 0);

        DiceRoads own = bridgeOfAAndB(true);
        Check.due("A and B", own.ofSquare(5, 1) * 10 + own.ofSquare(5, 2), 1);
        loseToA(own);
        Check.due("A is the only owner", own.ofSquare(5, 1), 0);
        Check.due("no second one", own.ofSquare(5, 2), -6);

        DiceRoads other = bridgeOfAAndB(false);
        Check.due("B and A", other.ofSquare(5, 1) * 10 + other.ofSquare(5, 2), 10);
        loseToA(other);
        Check.due("A is the first one", other.ofSquare(5, 1), 0);
        Check.due("and the only one", other.ofSquare(5, 2), -6);
    }

    /** A has the road 7, B and C share the bridge 5, B stands on it and is next. */
    private static DiceRoads bridgeOfBAndC(boolean firstIsB) {
        DiceRoads x = Table.with(100, 15, 15);
        Table.turn(x, 3, 4, 6);
        Table.turn(x, 2, 3, firstIsB ? 6 : 1);
        Table.turn(x, 2, 3, 6);
        Table.turn(x, 1, 2);
        if (!firstIsB) {
            // around the ring without a claim, back to the bridge
            Table.turn(x, 2, 3);
            Table.turn(x, 2, 3);
            Table.turn(x, 5, 5);
            Table.turn(x, 5, 5);
            Table.turn(x, 5, 5);
            Table.turn(x, 5, 5);
            Table.turn(x, 2, 3, 6);
            Table.turn(x, 5, 5);
            Table.turn(x, 5, 5);
        }
        return x;
    }

    /** A has the road 7, A and B share the bridge 5, B stands on it and is next. */
    private static DiceRoads bridgeOfAAndB(boolean firstIsA) {
        DiceRoads x = Table.with(100, 15, 0);
        Table.turn(x, 2, 3, firstIsA ? 6 : 1);
        Table.turn(x, 2, 3, 6);
        Table.turn(x, 6, 4);
        Table.turn(x, 1, 1, 6);
        if (!firstIsA) {
            // around the ring without a claim, back to the bridge
            Table.turn(x, 2, 3);
            Table.turn(x, 5, 5);
            Table.turn(x, 5, 5, 1);
            Table.turn(x, 5, 5);
            Table.turn(x, 5, 5);
            Table.turn(x, 4, 4, 6);
            Table.turn(x, 2, 3);
            Table.turn(x, 5, 5);
            Table.turn(x, 2, 3);
        }
        return x;
    }

    /** B goes from the bridge 5 to A's road 7, owes for it, and loses the bridge by that. */
    private static void loseToA(DiceRoads x) {
        x.set(DiceRoads.TOLL, 99);
        x.set(DiceRoads.DUE, 1);
        x.set(DiceRoads.WAGE, 0);
        int turns = x.of(1, 7);
        Check.due("B is next", x.count(2), 1);
        Check.due("B is on the bridge", x.of(1, 1), 5);
        Table.turn(x, 1, 1);
        Check.that("B owes A", x.owes(1, 0, 0) > 0);
        for (int i = 0; i < 4 && x.count(2) != 1; i++) {
            Table.turn(x, 5, 5, 1);
        }
        Table.turn(x, 1, 2);
        Check.due("B's turns", x.of(1, 7), turns + 2);
        Check.due("B lost its part", x.of(1, 8), 1);
        Check.due("B owes A nothing", x.owes(1, 0, 0), 0);
    }
}
