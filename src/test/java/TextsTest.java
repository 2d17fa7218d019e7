/** Promises 16 to 19: put, wipe, fault, carryOut. */
public final class TextsTest {
    public static void main(String[] args) {
        promise16Put();
        promise16PutErrors();
        promise16PutTooMany();
        promise17Wipe();
        promise18Faults();
        promise18FaultsOfEachSign();
        promise19CarryOut();
        promise19EachOrder();
        promise19UpToTheFirstError();
        promise19BadText();
        promise19IsOneChange();
        promise19WithoutAnOrderCarriedOut();
        promise19BoundOfTurns();
        thePadIsNoChange();
        Check.end();
    }

    private static void promise16Put() {
        DiceRoads x = new DiceRoads();
        Check.due("one", x.put('p'), 1);
        Check.due("eight", x.put(Table.number("12;t3;c0")), 9);
        Check.due("count(15)", x.count(15), 9);
        Check.due("the first one is the highest", x.fault(), -6);
        Check.due("the codes 33 and 126", x.put(Table.number("!~")), 11);
        Check.due("they stand where they were put", x.fault(), 9);
    }

    private static void promise16PutErrors() {
        DiceRoads x = new DiceRoads();
        x.put('p');
        long[] bad = {0, 32, 127, 128, 255, 256, -1, Long.MIN_VALUE, Long.MAX_VALUE, 0x70003000L, 0x310031L,
            0x3100L, 0x2031L, 0x7f31L, 0x3132333435363720L, 0x2032333435363738L, 0x8032333435363738L,
            0x0100000000000031L, 0x3100000000000000L, 0xff00000000000000L};
        for (long characters : bad) {
            Check.due("put(" + Long.toHexString(characters) + ")", x.put(characters), -2);
        }
        Check.due("nothing is appended", x.count(15), 1);
        Check.due("put(1)", x.put('1'), 2);
        Check.due("fault()", x.fault(), -6);
    }

    private static void promise16PutTooMany() {
        DiceRoads x = new DiceRoads();
        for (int i = 1; i <= 9; i++) {
            Check.due("put " + i, x.put(Table.number("p1;p1;p1")), 8 * i);
        }
        Check.due("79", x.put(Table.number("abcdefg")), 79);
        Check.due("two too many", x.put(Table.number("ab")), -4);
        Check.due("a bad one goes first", x.put(Table.number("a ")), -2);
        Check.due("still 79", x.count(15), 79);
        Check.due("80", x.put('z'), 80);
        Check.due("one too many", x.put('z'), -4);
        Check.due("eight too many", x.put(Table.number("p1;p1;p1")), -4);
        Check.due("still 80", x.count(15), 80);
        Check.due("none is one too many: no character", x.put(0), -2);
        Check.due("wipe()", x.wipe(), 80);
        Check.due("room again", x.put(Table.number("p1;p1;p1")), 8);
    }

    private static void promise17Wipe() {
        DiceRoads x = new DiceRoads();
        Check.due("wipe an empty pad", x.wipe(), 0);
        Table.write(x, "p1;t1");
        Check.due("wipe()", x.wipe(), 5);
        Check.due("count(15)", x.count(15), 0);
        Check.due("fault()", x.fault(), 0);
        Check.due("wipe() again", x.wipe(), 0);
    }

    private static void promise18Faults() {
        faultIs("", 0);
        faultIs("p", 1);
        faultIs("p1", -6);
        faultIs("p0", -6);
        faultIs("p00", 2);
        faultIs("p01", 2);
        faultIs("t9999", -6);
        faultIs("x10000", 5);
        faultIs("x99999", 5);
        faultIs("x1000;", 6);
        faultIs("c", 1);
        faultIs("c0", -6);
        faultIs("c9", -6);
        faultIs("c00", 2);
        faultIs("c12", 2);
        faultIs("c1;c2", -6);
        faultIs("p1;", 3);
        faultIs("p1;;", 3);
        faultIs(";", 0);
        faultIs("1", 0);
        faultIs("p;", 1);
        faultIs("c;", 1);
        faultIs("p1t1", 2);
        faultIs("pp1", 1);
        faultIs("P1", 0);
        faultIs("p-1", 1);
        faultIs("p1,t1", 2);
        faultIs("p12;t3;x45;c0", -6);
        faultIs("p12;t3;x45;c0;", 14);
        faultIs("p12;t3;x45;q", 11);
        faultIs("p1;t1;x1;c1;p1;t1;x1;c1;p1;t1;x1;c1;p1;t1;x1;c1;p1;t1;x1;c1;p1;t1;x1;c1;p1;t1;x1", -6);
        faultIs("p1;t1;x1;c1;p1;t1;x1;c1;p1;t1;x1;c1;p1;t1;x1;c1;p1;t1;x1;c1;p1;t1;x1;c1;p1;t1;x123", -4);
    }

    private static void faultIs(String text, int fault) {
        DiceRoads x = new DiceRoads();
        int length = Table.write(x, text);
        if (fault == -4) {
            Check.due("too long: " + text, length, -4);
            return;
        }
        Check.due("fault of " + text, x.fault(), fault);
        Check.due("the pad stays: " + text, x.count(15), text.length());
    }

    private static void promise18FaultsOfEachSign() {
        for (char sign = 33; sign <= 126; sign++) {
            boolean order = "ptxc".indexOf(sign) >= 0;
            boolean digit = sign >= '0' && sign <= '9';
            faultIs("" + sign, order ? 1 : 0);
            faultIs("t" + sign, digit ? -6 : 1);
            faultIs("t1" + sign, digit ? -6 : sign == ';' ? 3 : 2);
            faultIs("t1234" + sign, sign == ';' ? 6 : 5);
            faultIs("c" + sign, digit ? -6 : 1);
            faultIs("c1" + sign, sign == ';' ? 3 : 2);
            faultIs("x0" + sign, sign == ';' ? 3 : 2);
            faultIs("p5;" + sign, order ? 4 : 3);
        }
    }

    private static void promise19CarryOut() {
        DiceRoads x = new DiceRoads();
        Table.write(x, "p60;p40;x77;t9;c1;t12");
        Check.due("carryOut()", x.carryOut(), 6);
        Check.due("the pad is empty", x.count(15), 0);
        DiceRoads y = Table.with(60, 40);
        y.seed(77);
        y.go(9);
        y.clear(1);
        y.go(12);
        Check.due("as by the methods", Table.all(x), Table.all(y));
    }

    private static void promise19EachOrder() {
        DiceRoads x = new DiceRoads();
        Table.write(x, "p9999");
        Check.due("p", x.carryOut(), 1);
        Check.due("purse", x.of(0, 0), 9999);
        Table.write(x, "x9876");
        Check.due("x", x.carryOut(), 1);
        Check.due("x is", x.count(8), 9876);
        Table.write(x, "t99");
        Check.due("t", x.carryOut(), 1);
        Check.due("turns", x.count(0), 99);
        Table.write(x, "c0");
        Check.due("c", x.carryOut(), 1);
    }

    private static void promise19UpToTheFirstError() {
        DiceRoads x = new DiceRoads();
        Table.write(x, "p1;p2;c2;p3");
        Check.due("c2 is no player", x.carryOut(), 2);
        Check.due("players", x.count(1), 2);
        Check.due("the pad is empty", x.count(15), 0);
        Table.write(x, "t0;p3");
        Check.due("t0", x.carryOut(), 0);
        Table.write(x, "t1;t100;p3");
        Check.due("t100", x.carryOut(), 1);
        Table.write(x, "p1;p2;p3;x5");
        Check.due("a fifth player", x.carryOut(), 2);
        Check.due("players", x.count(1), 4);
        Check.that("no seed", x.count(8) != 5);
    }

    private static void promise19BadText() {
        DiceRoads x = Table.with(5);
        Check.due("an empty pad", x.carryOut(), -3);
        Table.write(x, "p1;p2;q");
        Check.due("a fault behind good orders", x.carryOut(), -3);
        Check.due("the pad stays", x.count(15), 7);
        Check.due("nothing is carried out", x.count(1), 1);
        Check.due("nothing is recorded", x.count(16), 1);
    }

    private static void promise19IsOneChange() {
        DiceRoads x = Table.with(5);
        String before = Table.all(x);
        Table.write(x, "p1;p2;x5;t9;c0");
        Check.due("carryOut()", x.carryOut(), 5);
        Check.due("one change", x.count(16), 2);
        Table.write(x, "t7");
        Check.due("undo()", x.undo(), 1);
        Check.due("all of it is undone", Table.all(x), before);
        Check.due("the pad is not", x.count(15), 2);
    }

    private static void promise19WithoutAnOrderCarriedOut() {
        DiceRoads x = new DiceRoads();
        Table.write(x, "t1");
        Check.due("no turn without a player", x.carryOut(), 0);
        Check.due("a change all the same", x.count(16), 1);
        Check.due("the pad is empty", x.count(15), 0);
    }

    private static void promise19BoundOfTurns() {
        DiceRoads x = new DiceRoads();
        Table.write(x, "p1;t99;t99;t99;t99;t99;t99;t99;t99;t99;t99;t99;t99;t99;t99;t99;t99;t99;t99;t99");
        Check.due("nineteen times 99", x.carryOut(), 20);
        for (int i = 0; i < 80; i++) {
            x.go(99);
        }
        Check.due("99 times 99", x.count(0), 99 * 99);
        Table.write(x, "t99;t99;t99;t1");
        Check.due("one more than 9999", x.carryOut(), 2);
        Check.due("turns", x.count(0), 9999);
    }

    private static void thePadIsNoChange() {
        DiceRoads x = Table.with(5);
        Table.write(x, "p1;t1");
        x.wipe();
        Table.write(x, "p1;t1");
        x.fault();
        Check.due("changes", x.count(16), 1);
        x.save(0);
        x.wipe();
        x.restore(0);
        Check.due("a saved state has no pad", x.count(15), 0);
    }
}
