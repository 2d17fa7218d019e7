/** The boundary cases of the texts of orders, and of promises 16 to 19: put, wipe, fault, carryOut. */
public final class PadBoundaryTest {
    public static void main(String[] args) {
        texts();
        promise16();
        promise17();
        promise18();
        promise19();
        Check.end();
    }

    private static void faultIs(String text, int fault) {
        DiceRoads x = new DiceRoads();
        Check.due("the length of \"" + text + "\"", Table.write(x, text), text.length());
        Check.due("the fault of \"" + text + "\"", x.fault(), fault);
    }

    private static void texts() {
        Check.sentence("Texts", "The pad is a text of at most 80 characters", PadBoundaryTest::atMost80);
        Check.sentence("Texts", "text = order { \";\" order }: one order, or more", () -> {
            faultIs("p1", -6);
            faultIs("p1;t1", -6);
            faultIs("p1;t1;x1", -6);
            faultIs(";p1", 0);
            faultIs("p1;;t1", 3);
            faultIs("p;", 1);
            faultIs("c;", 1);
            faultIs("p1;t;x1", 4);
            faultIs("p1;c;x1", 4);
            faultIs("p1t1", 2);
            faultIs("p1,t1", 2);
            faultIs("p1:t1", 2);
        });
        Check.sentence("Texts", "order = \"p\" number | \"t\" number | \"x\" number | \"c\" digit", () -> {
            faultIs("p12", -6);
            faultIs("t12", -6);
            faultIs("x12", -6);
            faultIs("c1", -6);
            faultIs("c12", 2);
            faultIs("c1;p12", -6);
            for (String sign : new String[] {"o", "q", "s", "u", "w", "y", "b", "d", "P", "T", "X", "C", "0", "9"}) {
                faultIs(sign, 0);
                faultIs("p1;" + sign, 3);
            }
        });
        Check.sentence("Texts", "A digit is 0 to 9", () -> {
            for (String letter : new String[] {"p", "t", "x", "c"}) {
                for (int digit = 0; digit <= 9; digit++) {
                    faultIs(letter + digit, -6);
                }
                faultIs(letter + (char) ('0' - 1), 1);
                faultIs(letter + (char) ('9' + 1), 1);
                faultIs(letter + "-1", 1);
                faultIs(letter + "+1", 1);
                faultIs(letter + "a", 1);
                faultIs("p1;" + letter + (char) ('0' - 1), 4);
                faultIs("p1;" + letter + (char) ('9' + 1), 4);
            }
        });
        Check.sentence("Texts", "a number 0 to 9999", () -> {
            for (String letter : new String[] {"p", "t", "x"}) {
                faultIs(letter + "0", -6);
                faultIs(letter + "9", -6);
                faultIs(letter + "10", -6);
                faultIs(letter + "99", -6);
                faultIs(letter + "100", -6);
                faultIs(letter + "999", -6);
                faultIs(letter + "1000", -6);
                faultIs(letter + "9999", -6);
                faultIs(letter + "10000", 5);
                faultIs(letter + "99999", 5);
            }
        });
        Check.sentence("Texts", "without leading zeros.", () -> {
            for (String letter : new String[] {"p", "t", "x", "c"}) {
                faultIs(letter + "0", -6);
                faultIs(letter + "00", 2);
                faultIs(letter + "01", 2);
                faultIs(letter + "0;" + letter + "0", -6);
                faultIs(letter + "0;" + letter + "09", 5);
            }
            faultIs("p10", -6);
            faultIs("p1000", -6);
            faultIs("p1001", -6);
        });
        faults();
    }

    private static void faults() {
        Check.sentence("Texts", "The fault is the index of the first character that cannot stand at its place when the "
                + "text is read from left to right", () -> {
            faultIs("q1", 0);
            faultIs("p1q1", 2);
            faultIs("p1;t2;q", 6);
            faultIs("p1;t2;q;r;s", 6);
            faultIs("qq", 0);
            faultIs("p1;t2;c33;q", 8);
            faultIs("p1;".repeat(26) + "q", 78);
            faultIs("p1;".repeat(26) + "p!", 79);
            faultIs("p1;".repeat(26) + "p1", -6);
        });
        Check.sentence("Texts", "also of a digit by which a number would be above 9999", () -> {
            faultIs("t10000", 5);
            faultIs("t9999", -6);
            faultIs("t99990", 5);
            faultIs("t12345", 5);
            faultIs("t1000;t10000", 11);
            faultIs("t1234;x5", -6);
        });
        Check.sentence("Texts", "if there is none and the text ends too early (also if it is empty), it is the length of "
                + "the text.", () -> {
            faultIs("", 0);
            faultIs("p", 1);
            faultIs("t", 1);
            faultIs("x", 1);
            faultIs("c", 1);
            faultIs("p1;", 3);
            faultIs("c1;", 3);
            faultIs("p1;c", 4);
            faultIs("p9999;", 6);
            faultIs("p1;".repeat(26) + "p", 79);
            faultIs("p1;".repeat(25) + "p123;", 80);
            faultIs("p1;".repeat(25) + "p12;t", 80);
        });
    }

    private static void atMost80() {
        DiceRoads x = new DiceRoads();
        for (int length = 8; length <= 80; length += 8) {
            Check.due("put to " + length, x.put(Table.number("p1;t1;x1")), length);
        }
        Check.due("one more", x.put(';'), -4);
        Check.due("its length", x.count(15), 80);
        DiceRoads y = Table.with();
        Table.write(y, "p1;".repeat(26) + "p1");
        Check.due("all 80 are a text", y.fault(), -6);
        Check.due("and are carried out up to the fifth player", y.carryOut(), 4);
    }

    // ---- promise 16

    private static void promise16() {
        Check.sentence("Promise 16", "its lowest 8 bits are the last character, the next 8 bits the one before, and so "
                + "on", () -> {
            DiceRoads x = new DiceRoads();
            Check.due("two", x.put('p' << 8 | '7'), 2);
            Check.due("their fault", x.fault(), -6);
            Check.due("eight", x.put(Table.number(";x123;t1")), 10);
            Check.due("their fault", x.fault(), -6);
            Check.due("carryOut()", x.carryOut(), 3);
            Check.due("the player's purse", x.of(0, 0), 7);
            Check.due("turns", x.count(0), 1);
            DiceRoads y = new DiceRoads();
            y.put('7' << 8 | 'p');
            Check.due("the other way around", y.fault(), 0);
        });
        Check.sentence("Promise 16", "8 bits that are 0 mean that there are no more characters", () -> {
            String signs = "p1;t1;x1";
            DiceRoads x = new DiceRoads();
            int length = 0;
            for (int count = 1; count <= 8; count++) {
                length += count;
                Check.due("put of " + count, x.put(Table.number(signs.substring(0, count))), length);
            }
        });
        Check.sentence("Promise 16", "and everything above them has to be 0, too.", () -> {
            DiceRoads x = new DiceRoads();
            for (int signs = 1; signs <= 6; signs++) {
                long below = Table.number("1".repeat(signs));
                Check.due("a sign above 8 bits of 0", x.put((long) '1' << 8 * signs + 8 | below), -2);
                Check.due("a bit above 8 bits of 0", x.put(1L << 8 * signs + 8 | below), -2);
                Check.due("the highest bit above 8 bits of 0", x.put(Long.MIN_VALUE | below), -2);
            }
            for (int bit = 16; bit < 64; bit++) {
                Check.due("the bit " + bit + " above one sign", x.put('1' | 1L << bit), -2);
            }
            Check.due("the length", x.count(15), 0);
        });
        Check.sentence("Promise 16", "1 to 8 characters; BAD_VALUE if there is no character", () -> {
            DiceRoads x = new DiceRoads();
            Check.due("none", x.put(0), -2);
            Check.due("one", x.put('p'), 1);
            Check.due("none behind one", x.put(0), -2);
            Check.due("eight", x.put(Table.number("1;p1;p1;")), 9);
            Check.due("the length", x.count(15), 9);
        });
        Check.sentence("Promise 16", "BAD_VALUE if a code is not 33 to 126", PadBoundaryTest::codes);
        Check.sentence("Promise 16", "TOO_MANY if the pad would be longer than 80.", PadBoundaryTest::longerThan80);
    }

    private static void codes() {
        for (int code = 0; code < 256; code++) {
            boolean good = code >= 33 && code <= 126;
            DiceRoads x = new DiceRoads();
            Check.due("the code " + code, x.put(code), good ? 1 : -2);
            Check.due("the length behind " + code, x.count(15), good ? 1 : 0);
            DiceRoads y = new DiceRoads();
            Check.due("the code " + code + " before a sign", y.put((long) code << 8 | '1'),
                    good ? 2 : code == 0 ? 1 : -2);
            long sevenSigns = 0x31313131313131L;
            DiceRoads z = new DiceRoads();
            Check.due("the code " + code + " as the first of eight", z.put((long) code << 56 | sevenSigns),
                    good ? 8 : code == 0 ? 7 : -2);
            DiceRoads w = new DiceRoads();
            Check.due("the code " + code + " as the last of eight", w.put(sevenSigns << 8 | code), good ? 8 : -2);
        }
    }

    private static void longerThan80() {
        for (int room = 0; room <= 8; room++) {
            for (int count = 1; count <= 8; count++) {
                DiceRoads x = new DiceRoads();
                Table.write(x, "1".repeat(80 - room));
                boolean fits = count <= room;
                Check.due(count + " where there is room for " + room, x.put(Table.number("1".repeat(count))),
                        fits ? 80 - room + count : -4);
                Check.due("the length", x.count(15), fits ? 80 - room + count : 80 - room);
            }
        }
        DiceRoads x = new DiceRoads();
        Table.write(x, "p1;".repeat(26));
        Check.due("too many", x.put(Table.number("p12")), -4);
        Check.due("none of them is appended", x.fault(), 78);
        Check.due("as many as there is room for", x.put(Table.number("p1")), 80);
        Check.due("the fault", x.fault(), -6);
    }

    // ---- promise 17

    private static void promise17() {
        Check.sentence("Promise 17", "Empties the pad, and returns the length that it had: from 0 to 80", () -> {
            for (int length = 0; length <= 80; length++) {
                DiceRoads x = new DiceRoads();
                Table.write(x, "p".repeat(length));
                Check.due("wipe()", x.wipe(), length);
                Check.due("the length", x.count(15), 0);
                Check.due("wipe() again", x.wipe(), 0);
                Check.due("the fault", x.fault(), 0);
            }
        });
        Check.sentence("Promise 17", "Empties the pad: nothing of it is left", () -> {
            DiceRoads x = new DiceRoads();
            Table.write(x, "p1;q");
            x.wipe();
            Table.write(x, "p12");
            Check.due("the length", x.count(15), 3);
            Check.due("the fault", x.fault(), -6);
            Check.due("carryOut()", x.carryOut(), 1);
            Check.due("the purse", x.of(0, 0), 12);
            Check.due("wipe() is no change", x.count(16), 1);
        });
    }

    // ---- promise 18

    private static void promise18() {
        Check.sentence("Promise 18", "Returns the fault of the pad, NONE if there is none.", () -> {
            DiceRoads x = new DiceRoads();
            String text = "p60;t12;x0;c3";
            int[] due = {0, 1, -6, -6, 4, 5, -6, -6, 8, 9, -6, 11, 12, -6};
            for (int length = 0; length < due.length; length++) {
                Check.due("the fault of the first " + length, x.fault(), due[length]);
                if (length < text.length()) {
                    x.put(text.charAt(length));
                }
            }
            Check.due("it is told again", x.fault(), -6);
            x.put('0');
            Check.due("then a fault", x.fault(), 13);
            Table.write(x, ";p1;t1");
            Check.due("which stays the first", x.fault(), 13);
            Check.due("the pad stays", x.count(15), 20);
        });
    }

    // ---- promise 19

    private static void promise19() {
        Check.sentence("Promise 19", "Carries the orders of the pad out, one after the other", () -> {
            DiceRoads x = new DiceRoads();
            Table.write(x, "p0;p9999;x9999;t1;x0;t99;c1;p7");
            Check.due("carryOut()", x.carryOut(), 8);
            DiceRoads y = Table.with(0, 9999);
            y.seed(9999);
            y.go(1);
            y.seed(0);
            y.go(99);
            y.clear(1);
            y.player(7);
            Check.due("as by the methods", Table.all(x), Table.all(y));
        });
        Check.sentence("Promise 19", "up to the first one that returns an error", PadBoundaryTest::upToAnError);
        Check.sentence("Promise 19", "and empties the pad.", () -> {
            DiceRoads x = new DiceRoads();
            Table.write(x, "p1;t1");
            x.carryOut();
            Check.due("behind all orders", x.count(15), 0);
            Check.due("the fault", x.fault(), 0);
            Table.write(x, "t1;t0;t1");
            Check.due("one", x.carryOut(), 1);
            Check.due("behind an error", x.count(15), 0);
            Table.write(x, "t0");
            Check.due("none", x.carryOut(), 0);
            Check.due("behind none", x.count(15), 0);
        });
        Check.sentence("Promise 19", "This is a change (one, with all of them; also if none is carried out).",
                PadBoundaryTest::oneChange);
        Check.sentence("Promise 19", "Returns how many orders were carried out: from 0 to 27", () -> {
            DiceRoads x = Table.with(5);
            Table.write(x, "t1;".repeat(26) + "t1");
            Check.due("all that there is room for", x.carryOut(), 27);
            Check.due("turns", x.count(0), 27);
            Table.write(x, "c9");
            Check.due("none", x.carryOut(), 0);
            Table.write(x, "c0");
            Check.due("one that does nothing", x.carryOut(), 1);
        });
        Check.sentence("Promise 19", "BAD_TEXT if the pad has a fault (then it stays).", () -> {
            String[] bad = {"", "p", "p1;", "q", "p1;q", "p00", "p10000", "c10", "p1;t1;x1;"};
            for (String text : bad) {
                DiceRoads x = Table.with(5);
                Table.write(x, text);
                int fault = x.fault();
                Check.due("carryOut() of \"" + text + "\"", x.carryOut(), -3);
                Check.due("its length", x.count(15), text.length());
                Check.due("its fault", x.fault(), fault);
                Check.due("players", x.count(1), 1);
                Check.due("turns", x.count(0), 0);
                Check.due("changes", x.count(16), 1);
            }
        });
    }

    private static void upToAnError() {
        // the orders, how many are carried out, and the players and turns then
        Object[][] texts = {{"p1;p10;p100;p1000;p1;t5", 4, 4, 0}, {"t1", 0, 0, 0}, {"t1;p1", 0, 0, 0},
            {"p1;t0;t1", 1, 1, 0}, {"p1;t100;t1", 1, 1, 0}, {"p1;t99;t100", 2, 1, 99}, {"p1;t9999;p1", 1, 1, 0},
            {"c0", 0, 0, 0}, {"p1;c1;p1", 1, 1, 0}, {"p1;c0;p1", 3, 2, 0}, {"p1;c4;p1", 1, 1, 0},
            {"p1;c9;p1", 1, 1, 0}, {"x0;x9999;p9999;t1;t0", 4, 1, 1}};
        for (Object[] row : texts) {
            DiceRoads x = new DiceRoads();
            Table.write(x, (String) row[0]);
            Check.due("carryOut() of " + row[0], x.carryOut(), (int) row[1]);
            Check.due("players behind " + row[0], x.count(1), (int) row[2]);
            Check.due("turns behind " + row[0], x.count(0), (int) row[3]);
        }
        DiceRoads x = Table.with(5);
        Table.advance(x, 9990);
        Table.write(x, "t8;t2;x5");
        Check.due("at the bound of turns", x.carryOut(), 1);
        Check.due("turns", x.count(0), 9998);
        Check.that("the order behind the error is not done", x.count(8) != 5);
        Table.write(x, "t1;t1");
        Check.due("to the bound of turns", x.carryOut(), 1);
        Check.due("turns", x.count(0), 9999);
    }

    private static void oneChange() {
        DiceRoads x = Table.with(5);
        String before = Table.all(x);
        Table.write(x, "p1;p2;x5;t9;c0");
        Check.due("five orders", x.carryOut(), 5);
        Check.due("are one change", x.count(16), 2);
        Check.due("undo()", x.undo(), 1);
        Check.due("undone", Table.all(x), before);
        Check.due("the pad is not back", x.count(15), 0);
        Table.write(x, "t0");
        Check.due("none", x.carryOut(), 0);
        Check.due("is a change", x.count(16), 2);
        Check.due("undo()", x.undo(), 1);
        Check.due("nothing was different", Table.all(x), before);
        Table.write(x, "t3;t0");
        Check.due("one, and an error", x.carryOut(), 1);
        Check.due("are a change", x.count(16), 2);
        x.undo();
        Check.due("undone", Table.all(x), before);
        Table.write(x, "t");
        Check.due("a fault", x.carryOut(), -3);
        Check.due("is none", x.count(16), 1);
    }
}
