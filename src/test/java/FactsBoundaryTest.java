/** The boundary cases of promises 7, 8, 10 and 11, and of the text of the board: of, ofSquare, count, sign. */
public final class FactsBoundaryTest {
    private static final int[] FAR = {Integer.MIN_VALUE, -20, -1, 20, 64, 1000, Integer.MAX_VALUE};

    public static void main(String[] args) {
        promise7();
        promise8();
        promise10();
        promise11();
        Check.end();
    }

    /** One player who owns everything that can be owned. */
    private static DiceRoads ownerOfAll() {
        DiceRoads x = Table.with(9999);
        x.set(DiceRoads.CLAIM, 1);
        for (int i = 0; i < 10; i++) {
            x.go(99);
        }
        return x;
    }

    private static void promise7() {
        Check.sentence("Promise 7", "what: 0 to 8, of a player who has just come", () -> {
            DiceRoads x = Table.with(0, 9999);
            for (int player = 0; player < 2; player++) {
                Check.due("its purse", x.of(player, 0), 9999 * player);
                for (int what = 1; what <= 8; what++) {
                    Check.due("of(" + player + ", " + what + ")", x.of(player, what), 0);
                }
            }
        });
        Check.sentence("Promise 7", "2 squares that it owns, or a part of, as a set: from none to all", () -> {
            DiceRoads x = ownerOfAll();
            Check.due("all roads and bridges", x.of(0, 2), 0xfffff & ~(1 | 1 << 10));
            DiceRoads y = Table.with(100, 100);
            Table.turn(y, 2, 3, 6);
            Table.turn(y, 2, 3, 6);
            Check.due("a first part", y.of(0, 2), 1 << 5);
            Check.due("a second part", y.of(1, 2), 1 << 5);
            Table.send(y, 1, 19, 6);
            Check.due("the last square", y.of(1, 2), 1 << 5 | 1 << 19);
        });
        Check.sentence("Promise 7", "3 what it owes, 4 what is owed to it: to all others, by all others", () -> {
            DiceRoads x = Debtors.owing(new int[][] {{0, 2, 4, 8}, {16, 0, 0, 0}, {32, 0, 0, 0}, {64, 0, 0, 0}});
            Check.due("owes", x.of(0, 3), 14);
            Check.due("is owed", x.of(0, 4), 112);
            Check.due("the last one owes", x.of(3, 3), 64);
            Check.due("the last one is owed", x.of(3, 4), 8);
        });
        Check.sentence("Promise 7", "5 tolls that it paid so far (debts that it paid too), 6 tolls that it got so far",
                FactsBoundaryTest::tollsPaidAndGot);
        Check.sentence("Promise 7", "7 turns so far", () -> {
            DiceRoads x = Table.with(5, 5);
            x.go(1);
            Check.due("one", x.of(0, 7), 1);
            Check.due("none", x.of(1, 7), 0);
            Table.advance(x, 9998);
            Check.due("half of 9999, and one", x.of(0, 7), 5000);
            Check.due("half of 9999", x.of(1, 7), 4999);
        });
        Check.sentence("Promise 7", "8 squares that it lost by debts so far: parts of bridges, too",
                FactsBoundaryTest::squaresLost);
        Check.sentence("Promise 7", "NO_SUCH if there is no such player", () -> {
            DiceRoads x = Table.with(5, 5);
            for (int what = 0; what <= 8; what++) {
                Check.due("of(2, " + what + ")", x.of(2, what), -1);
                Check.due("of(-1, " + what + ")", x.of(-1, what), -1);
                Check.due("of(4, " + what + ")", x.of(4, what), -1);
                Check.due("without players", new DiceRoads().of(0, what), -1);
            }
            for (int player : FAR) {
                Check.due("of(" + player + ", 0)", x.of(player, 0), -1);
            }
            Check.due("the last one", x.of(1, 0), 5);
            x.undo();
            Check.due("one who came and is undone", x.of(1, 0), -1);
        });
        Check.sentence("Promise 7", "BAD_VALUE if what is out of range.", () -> {
            DiceRoads x = Table.with(5, 5);
            Check.due("of(0, -1)", x.of(0, -1), -2);
            Check.due("of(0, 9)", x.of(0, 9), -2);
            Check.due("of(1, 8)", x.of(1, 8), 0);
            for (int what : FAR) {
                Check.due("of(1, " + what + ")", x.of(1, what), -2);
            }
        });
    }

    private static void tollsPaidAndGot() {
        DiceRoads x = Table.with(15, 5);
        Table.turn(x, 1, 2, 6);
        Table.turn(x, 1, 2);
        Check.due("as much as there was", x.of(1, 5), 5);
        Check.due("is got", x.of(0, 6), 5);
        Table.restAll(x, 3);
        Check.due("and the debt of 7", x.of(1, 5), 12);
        Check.due("is got", x.of(0, 6), 12);
        Check.due("none the other way", x.of(0, 5), 0);
        Check.due("none the other way", x.of(1, 6), 0);
    }

    private static void squaresLost() {
        DiceRoads x = Table.with(15, 45);
        x.set(DiceRoads.WAGE, 0);
        x.set(DiceRoads.DUE, 20);
        Table.send(x, 0, 8, 6);
        Table.send(x, 1, 5, 6);
        Table.send(x, 1, 11, 6);
        Table.send(x, 1, 12, 6);
        x.set(DiceRoads.DUE, 1);
        for (int lost = 1; lost <= 3; lost++) {
            Table.send(x, 1, 8, 0);
            Check.due("lost", x.of(1, 8), lost - 1);
            Table.restAll(x, 1);
            Check.due("one more", x.of(1, 8), lost);
        }
        Table.send(x, 1, 8, 0);
        Table.restAll(x, 3);
        Check.due("none is left", x.of(1, 8), 3);
        Check.due("the creditor lost none", x.of(0, 8), 0);
    }

    private static void promise8() {
        Check.sentence("Promise 8", "1, 2 its first, second owner (NONE)", () -> {
            DiceRoads x = Table.with(100, 100);
            for (int square = 0; square < 20; square++) {
                Check.due("first of " + square, x.ofSquare(square, 1), -6);
                Check.due("second of " + square, x.ofSquare(square, 2), -6);
            }
            Table.turn(x, 2, 3, 6);
            Check.due("first of a bridge", x.ofSquare(5, 1), 0);
            Check.due("no second yet", x.ofSquare(5, 2), -6);
            Table.turn(x, 2, 3, 6);
            Check.due("second of a bridge", x.ofSquare(5, 2), 1);
            Table.turn(x, 1, 1, 6);
            Check.due("first of a road", x.ofSquare(7, 1), 0);
            Check.due("no second of a road", x.ofSquare(7, 2), -6);
        });
        Check.sentence("Promise 8", "3 its toll (0 if nobody owns it)", () -> {
            DiceRoads x = Table.with(100);
            for (int square = 0; square < 20; square++) {
                Check.due("toll of " + square, x.ofSquare(square, 3), 0);
            }
            Table.turn(x, 1, 2, 6);
            Check.due("toll of 3", x.ofSquare(3, 3), 12);
            Check.due("nobody's road in its group", x.ofSquare(4, 3), 0);
            Check.due("an inn in its group", x.ofSquare(0, 3), 0);
            DiceRoads y = ownerOfAll();
            for (int square = 0; square < 20; square++) {
                Check.due("toll of " + square, y.ofSquare(square, 3), square % 10 == 0 ? 0 : 30);
            }
        });
        Check.sentence("Promise 8", "4 the players who stand there, as a set: from none to all", () -> {
            DiceRoads x = new DiceRoads();
            Check.due("without players", x.ofSquare(0, 4), 0);
            for (int i = 0; i < 4; i++) {
                x.player(5);
                Check.due("all", x.ofSquare(0, 4), (2 << i) - 1);
            }
            Table.restAll(x, 1);
            Check.due("nobody", x.ofSquare(0, 4), 0);
            Check.due("all", x.ofSquare(10, 4), 15);
            Table.turn(x, 4, 5, 1);
            Check.due("all but the first", x.ofSquare(10, 4), 14);
            Check.due("the first", x.ofSquare(19, 4), 1);
        });
        Check.sentence("Promise 8", "NO_SUCH if there is no such square", () -> {
            DiceRoads x = Table.with(5, 5);
            for (int what = 0; what <= 4; what++) {
                Check.due("ofSquare(-1, " + what + ")", x.ofSquare(-1, what), -1);
                Check.due("ofSquare(20, " + what + ")", x.ofSquare(20, what), -1);
                for (int square : FAR) {
                    Check.due("ofSquare(" + square + ", " + what + ")", x.ofSquare(square, what), -1);
                }
            }
            Check.due("the last one", x.ofSquare(19, 0), 1);
            Check.due("the first one", x.ofSquare(0, 0), 0);
        });
        Check.sentence("Promise 8", "BAD_VALUE if what is out of range.", () -> {
            DiceRoads x = Table.with(5, 5);
            Check.due("ofSquare(0, -1)", x.ofSquare(0, -1), -2);
            Check.due("ofSquare(0, 5)", x.ofSquare(0, 5), -2);
            Check.due("ofSquare(0, 4)", x.ofSquare(0, 4), 3);
            for (int what : FAR) {
                Check.due("ofSquare(19, " + what + ")", x.ofSquare(19, what), -2);
            }
        });
    }

    private static void promise10() {
        Check.sentence("Promise 10", "what: 0 to 16, of a new object", () -> {
            DiceRoads x = new DiceRoads();
            int[] due = {0, 0, -6, 0, 0, 0, 0, 0, 1, 20, 15, 6, 3, 4, 20, 0, 0};
            for (int what = 0; what < due.length; what++) {
                Check.due("count(" + what + ")", x.count(what), due[what]);
            }
        });
        Check.sentence("Promise 10", "0 turns so far: up to 9999", () -> {
            DiceRoads x = Table.with(5, 5, 5);
            Table.advance(x, 9999);
            Check.due("count(0)", x.count(0), 9999);
            x.go(1);
            Check.due("no more", x.count(0), 9999);
        });
        Check.sentence("Promise 10", "1 players: up to 4", () -> {
            DiceRoads x = new DiceRoads();
            for (int players = 0; players < 6; players++) {
                Check.due("count(1)", x.count(1), Math.min(players, 4));
                x.player(5);
            }
        });
        Check.sentence("Promise 10", "2 the player who is next (NONE without any)", () -> {
            DiceRoads x = new DiceRoads();
            Check.due("without any", x.count(2), -6);
            x.player(5);
            Check.due("with one", x.count(2), 0);
            x.undo();
            Check.due("without it again", x.count(2), -6);
            x.save(0);
            x.player(5);
            x.player(5);
            x.go(1);
            Check.due("the second one", x.count(2), 1);
            x.restore(0);
            Check.due("without any by a slot", x.count(2), -6);
            x.player(5);
            Check.due("with one who is the first", x.count(2), 0);
        });
        Check.sentence("Promise 10", "3 debts, 5 coins of all debts: up to twelve debts", () -> {
            int[][] coins = {{0, 2, 2, 2}, {2, 0, 2, 2}, {2, 2, 0, 2}, {2, 2, 2, 0}};
            DiceRoads x = Debtors.owing(coins);
            Check.due("count(3)", x.count(3), 12);
            Check.due("count(5)", x.count(5), 24);
        });
        Check.sentence("Promise 10", "4 coins in all purses", () -> {
            DiceRoads x = Table.with(9999, 9999, 9999, 9999);
            Check.due("count(4)", x.count(4), 4 * 9999);
            Check.due("empty ones", Table.with(0, 0, 0).count(4), 0);
        });
        Check.sentence("Promise 10", "6 coins that were paid to nobody so far, 7 wages so far",
                FactsBoundaryTest::coinsToAndFromNobody);
        Check.sentence("Promise 10", "8 x: up to what a draw leaves", () -> {
            DiceRoads x = Table.with(5);
            x.seed(872);
            x.go(1);
            // 65474 is a die of 1, 60886 one of 3, and 44471 one for the road
            Check.due("the square", x.of(0, 1), 4);
            Check.due("count(8)", x.count(8), 44471);
        });
        Check.sentence("Promise 10", "9 to 13 the settings", () -> {
            DiceRoads x = new DiceRoads();
            for (int setting = 0; setting < 5; setting++) {
                x.set(setting, setting + 2);
            }
            for (int setting = 0; setting < 5; setting++) {
                Check.due("count(" + (9 + setting) + ")", x.count(9 + setting), setting + 2);
            }
        });
        Check.sentence("Promise 10", "14 the length of the text of the board: from 20 to 44",
                FactsBoundaryTest::lengthOfTheText);
        Check.sentence("Promise 10", "15 the length of the pad: from 0 to 80", () -> {
            DiceRoads x = new DiceRoads();
            for (int signs = 0; signs <= 81; signs++) {
                Check.due("count(15)", x.count(15), Math.min(signs, 80));
                x.put('p');
            }
        });
        Check.sentence("Promise 10", "16 how many changes can be undone: from 0 to 6", () -> {
            DiceRoads x = new DiceRoads();
            for (int changes = 0; changes < 9; changes++) {
                Check.due("count(16)", x.count(16), Math.min(changes, 6));
                x.seed(changes);
            }
            for (int changes = 6; changes >= 0; changes--) {
                Check.due("count(16)", x.count(16), changes);
                x.undo();
            }
            Check.due("count(16)", x.count(16), 0);
        });
        Check.sentence("Promise 10", "BAD_VALUE if what is out of range.", () -> {
            DiceRoads x = Table.with(5, 5);
            Check.due("count(-1)", x.count(-1), -2);
            Check.due("count(17)", x.count(17), -2);
            for (int what : FAR) {
                Check.due("count(" + what + ")", x.count(what), -2);
            }
        });
    }

    private static void coinsToAndFromNobody() {
        DiceRoads x = Table.with(100, 100);
        Table.turn(x, 2, 3, 6);
        Check.due("a first part", x.count(6), 15);
        Table.turn(x, 2, 3, 6);
        Check.due("a second part is paid to somebody", x.count(6), 15);
        Check.due("no wages", x.count(7), 0);
        Table.restAll(x, 2);
        Check.due("wages of two players", x.count(7), 40);
        Table.restAll(x, 1);
        Check.due("none away from 0", x.count(7), 40);
        Check.due("all coins", x.count(4), 200 + x.count(7) - x.count(6));
    }

    private static void lengthOfTheText() {
        DiceRoads x = new DiceRoads();
        Check.due("a new board", x.count(14), 20);
        for (int player = 1; player <= 4; player++) {
            x.player(9999);
            Check.due("players", x.count(14), 20 + player);
        }
        Table.send(x, 0, 5, 6);
        Check.due("an owner", x.count(14), 25);
        Table.send(x, 1, 5, 6);
        Check.due("two owners", x.count(14), 26);
        x.set(DiceRoads.CLAIM, 1);
        x.set(DiceRoads.PRICE, 1);
        Table.advance(x, 1500);
        Check.due("all owners", x.count(14), 20 + 16 + 4 + 4);
        Check.due("signs", Table.text(x).length(), 44);
    }

    private static void promise11() {
        Check.sentence("Texts", "\"o\" for an inn, \"-\" for a road, \"=\" for a bridge: without players and owners", () ->
                Check.due("the text", Table.text(new DiceRoads()), "o----=----o----=----"));
        Check.sentence("Texts", "then its owners, the first one first, as \"a\" for 0, \"b\" for 1, and so on; then the "
                + "players who stand there, by numbers, as capital letters.", FactsBoundaryTest::ownersThenPlayers);
        Check.sentence("Promise 11", "Returns its code: of the first place and of the last one", () -> {
            DiceRoads x = Table.with(5, 5, 5, 5);
            Check.due("the first", x.sign(0), 'o');
            Check.due("the first player", x.sign(1), 'A');
            Check.due("the last player", x.sign(4), 'D');
            Check.due("the last", x.sign(23), '-');
            Check.due("behind it", x.sign(24), -1);
            Table.turn(x, 5, 5);
            Table.turn(x, 5, 5);
            Table.turn(x, 5, 5);
            Table.send(x, 0, 19, 1);
            Check.due("a player at the end", x.sign(23), 'A');
        });
        Check.sentence("Promise 11", "NO_SUCH if there is no such place.", () -> {
            DiceRoads x = new DiceRoads();
            Check.due("sign(-1)", x.sign(-1), -1);
            Check.due("sign(19)", x.sign(19), '-');
            Check.due("sign(20)", x.sign(20), -1);
            for (int place : FAR) {
                Check.due("sign(" + place + ")", x.sign(place), -1);
            }
            x.player(5);
            Check.due("a text that is longer", x.sign(20), '-');
            Check.due("behind it", x.sign(21), -1);
            x.undo();
            Check.due("a text that is shorter again", x.sign(20), -1);
        });
    }

    private static void ownersThenPlayers() {
        DiceRoads x = Table.with(100, 100);
        Table.send(x, 1, 5, 6);
        Table.send(x, 0, 5, 6);
        Check.due("the first owner first, then the player", Table.text(x), "o----=baA----oB----=----");
        DiceRoads end = Table.with(100);
        Table.send(end, 0, 19, 6);
        Check.due("at the end", Table.text(end), "o----=----o----=----aA");
        DiceRoads y = Table.with(100, 100, 100, 100);
        Table.turn(y, 2, 3, 1);
        Table.turn(y, 2, 3, 6);
        Table.turn(y, 2, 3, 6);
        Table.turn(y, 2, 3);
        Check.due("all on one bridge", Table.text(y), "o----=bcABCD----o----=----");
    }
}
