/** Promises 7, 8, 10 and 11: of, ofSquare, count, sign. */
public final class FactsTest {
    public static void main(String[] args) {
        promise7Of();
        promise7Errors();
        promise8OfSquare();
        promise8Errors();
        promise10Count();
        promise10Errors();
        promise11Sign();
        promise11LongestText();
        Check.end();
    }

    /** A has 3 and a part of 5, B has the other part and 8; C has paid and owes. */
    private static DiceRoads game() {
        DiceRoads x = Table.with(100, 100, 20);
        Table.turn(x, 1, 2, 6);
        Table.turn(x, 2, 3, 6);
        Table.turn(x, 1, 2);
        Table.turn(x, 1, 1, 6);
        Table.turn(x, 1, 2, 6);
        x.set(DiceRoads.TOLL, 9);
        Table.turn(x, 1, 1);
        return x;
    }

    private static void promise7Of() {
        DiceRoads x = game();
        // C paid 12 for 3 to A; then of the bridge's 18 (B has the road 8) 9 are B's as the first one's
        int[][] due = {
            {100 - 15 + 12 - 15, 5, 1 << 3 | 1 << 5, 0, 9, 0, 12, 2, 0},
            {100 - 15 + 15 - 15 + 8, 8, 1 << 5 | 1 << 8, 0, 1, 0, 8, 2, 0},
            {0, 5, 0, 10, 0, 20, 0, 2, 0}};
        for (int player = 0; player < 3; player++) {
            for (int what = 0; what <= 8; what++) {
                Check.due("of(" + player + ", " + what + ")", x.of(player, what), due[player][what]);
            }
        }
    }

    private static void promise7Errors() {
        DiceRoads x = game();
        int[] none = {-1, 3, 4, Integer.MIN_VALUE, Integer.MAX_VALUE};
        for (int player : none) {
            Check.due("of(" + player + ", 0)", x.of(player, 0), -1);
            Check.due("of(" + player + ", 9)", x.of(player, 9), -1);
        }
        Check.due("of(0, -1)", x.of(0, -1), -2);
        Check.due("of(0, 9)", x.of(0, 9), -2);
        Check.due("of(0, MIN)", x.of(0, Integer.MIN_VALUE), -2);
        Check.due("of(0, MAX)", x.of(0, Integer.MAX_VALUE), -2);
    }

    private static void promise8OfSquare() {
        DiceRoads x = game();
        int[] sorts = {0, 1, 1, 1, 1, 2, 1, 1, 1, 1, 0, 1, 1, 1, 1, 2, 1, 1, 1, 1};
        for (int square = 0; square < 20; square++) {
            Check.due("ofSquare(" + square + ", 0)", x.ofSquare(square, 0), sorts[square]);
            int first = square == 3 ? 0 : square == 5 || square == 8 ? 1 : -6;
            Check.due("ofSquare(" + square + ", 1)", x.ofSquare(square, 1), first);
            Check.due("ofSquare(" + square + ", 2)", x.ofSquare(square, 2), square == 5 ? 0 : -6);
            Check.due("ofSquare(" + square + ", 3)", x.ofSquare(square, 3), first < 0 ? 0 : 18);
            int players = square == 5 ? 1 | 4 : square == 8 ? 2 : 0;
            Check.due("ofSquare(" + square + ", 4)", x.ofSquare(square, 4), players);
        }
    }

    private static void promise8Errors() {
        DiceRoads x = new DiceRoads();
        int[] none = {-1, 20, Integer.MIN_VALUE, Integer.MAX_VALUE};
        for (int square : none) {
            Check.due("ofSquare(" + square + ", 0)", x.ofSquare(square, 0), -1);
            Check.due("ofSquare(" + square + ", 5)", x.ofSquare(square, 5), -1);
        }
        Check.due("ofSquare(0, -1)", x.ofSquare(0, -1), -2);
        Check.due("ofSquare(0, 5)", x.ofSquare(0, 5), -2);
        Check.due("ofSquare(19, MIN)", x.ofSquare(19, Integer.MIN_VALUE), -2);
        Check.due("ofSquare(19, MAX)", x.ofSquare(19, Integer.MAX_VALUE), -2);
    }

    private static void promise10Count() {
        DiceRoads x = game();
        Table.write(x, "p1;zz");
        int seed = Table.seedFor(1, 1);
        int x2 = (75 * ((75 * seed + 74) % 65537) + 74) % 65537;
        int[] due = {6, 3, 0, 2, 82 + 93, 10, 45, 0, x2, 20, 15, 9, 3, 4, 20 + 4 + 3, 5, 6};
        for (int what = 0; what < due.length; what++) {
            Check.due("count(" + what + ")", x.count(what), due[what]);
        }
        Table.turn(x, 6, 6, 1);
        Check.due("next", x.count(2), 1);
        Table.turn(x, 6, 6);
        Check.due("wages", x.count(7), 20);
        Check.due("coins", x.count(4), 82 + 93 + 20);
        Check.due("next", x.count(2), 2);
    }

    private static void promise10Errors() {
        DiceRoads x = new DiceRoads();
        Check.due("count(-1)", x.count(-1), -2);
        Check.due("count(17)", x.count(17), -2);
        Check.due("count(MIN)", x.count(Integer.MIN_VALUE), -2);
        Check.due("count(MAX)", x.count(Integer.MAX_VALUE), -2);
    }

    private static void promise11Sign() {
        DiceRoads x = game();
        String text = "o---a-=baAC---bB-o----=----";
        Check.due("text", Table.text(x), text);
        for (int place = 0; place < text.length(); place++) {
            Check.due("sign(" + place + ")", x.sign(place), text.charAt(place));
        }
        Check.due("sign behind the text", x.sign(text.length()), -1);
        Check.due("sign(-1)", x.sign(-1), -1);
        Check.due("sign(MIN)", x.sign(Integer.MIN_VALUE), -1);
        Check.due("sign(MAX)", x.sign(Integer.MAX_VALUE), -1);
        Check.due("the length", x.count(14), text.length());
        x.undo();
        x.undo();
        x.undo();
        x.undo();
        Check.due("no sign of a longer text before", x.sign(x.count(14)), -1);
    }

    private static void promise11LongestText() {
        DiceRoads x = Table.with(9999, 9999, 9999, 9999);
        x.set(DiceRoads.CLAIM, 1);
        x.set(DiceRoads.PRICE, 1);
        x.set(DiceRoads.WAGE, 99);
        for (int i = 0; i < 20; i++) {
            x.go(99);
        }
        Check.due("all squares have owners", x.count(14), 44);
        String text = Table.text(x);
        Check.due("length", text.length(), 44);
        Check.due("all signs", text.replaceAll("o|-[a-d]|=[a-d][a-d]|[A-D]", ""), "");
        Check.due("sign(44)", x.sign(44), -1);
    }
}
