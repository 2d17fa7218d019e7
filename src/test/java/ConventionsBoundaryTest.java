import java.util.LinkedHashMap;
import java.util.Map;
import java.util.function.Supplier;
import java.util.function.ToIntFunction;

/** The boundary cases of the conventions: refused calls, the order of errors, first numbers, the last call. */
public final class ConventionsBoundaryTest {
    public static void main(String[] args) {
        Check.sentence("What it is", "An object is used for at most 512 calls after it has been made",
                ConventionsBoundaryTest::theLastCallAnswers);
        Check.sentence("Conventions", "it names its errors in the order in which they are checked, and the first one "
                + "that applies is returned", ConventionsBoundaryTest::theFirstErrorIsReturned);
        Check.sentence("Conventions", "A call that returns an error changes nothing.",
                ConventionsBoundaryTest::errorsChangeNothing);
        Check.sentence("Conventions", "NONE (-6) is not an error; it is returned only if no error applies.",
                ConventionsBoundaryTest::noneOnlyWithoutAnError);
        Check.sentence("Conventions", "Everything is numbered from 0.", ConventionsBoundaryTest::numberedFromZero);
        Check.sentence("Conventions", "Divisions are rounded down.", ConventionsBoundaryTest::roundedDown);
        Check.sentence("Conventions", "Sets of squares and players are bit masks.",
                ConventionsBoundaryTest::setsAreBitMasks);
        Check.end();
    }

    private static void theLastCallAnswers() {
        DiceRoads changed = new DiceRoads();
        for (int call = 1; call <= 511; call++) {
            Check.due("call " + call + ": seed", changed.seed(call), call == 1 ? 1 : call - 1);
        }
        Check.due("call 512: undo()", changed.undo(), 5);

        DiceRoads written = new DiceRoads();
        for (int call = 1; call <= 511; call += 2) {
            Check.due("call " + call + ": put", written.put(Table.number("p1;p1;p1")), 8);
            Check.due("call " + (call + 1) + ": wipe()", written.wipe(), 8);
        }

        DiceRoads saved = new DiceRoads();
        for (int call = 1; call <= 511; call += 2) {
            Check.due("call " + call + ": save", saved.save(call % 4 / 2), 0);
            Check.due("call " + (call + 1) + ": restore", saved.restore(call % 4 / 2), 0);
        }

        DiceRoads asked = Table.with(60, 40, 5, 0);
        int seed = asked.bestSeed(0, 60);
        int empty = asked.emptyIn(0);
        for (int call = 7; call <= 511; call += 2) {
            Check.due("call " + call + ": bestSeed", asked.bestSeed(0, 60), seed);
            Check.due("call " + (call + 1) + ": emptyIn", asked.emptyIn(0), empty);
        }

        DiceRoads played = Table.with(60, 40, 5, 0);
        for (int call = 5; call <= 511; call++) {
            Check.that("call " + call + ": go", played.go(19) >= 0);
        }
        Check.due("call 512: count(0)", played.count(0), 19 * 507);
    }

    private static void theFirstErrorIsReturned() {
        DiceRoads none = new DiceRoads();
        DiceRoads four = Table.with(5, 5, 5, 5);
        DiceRoads two = Table.with(5, 5);
        Check.due("a wrong purse, and 4 players", four.player(-1), -2);
        Check.due("a wrong purse, and 4 players", four.player(10000), -2);
        Check.due("wrong turns, and no player", none.go(0), -2);
        Check.due("wrong turns, and no player", none.go(100), -2);
        Check.due("wrong turns, and the bound of turns", late().go(0), -2);
        Check.due("wrong turns, and the bound of turns", late().go(100), -2);
        Check.due("no player, and no such what", two.of(2, 9), -1);
        Check.due("no player, and no such what", two.of(2, -1), -1);
        Check.due("no square, and no such what", two.ofSquare(20, 5), -1);
        Check.due("no square, and no such what", two.ofSquare(-1, -1), -1);
        Check.due("no creditor, and no such what", two.owes(0, 2, 2), -1);
        Check.due("no debtor, and no such what", two.owes(2, 0, -1), -1);
        Check.due("no player, and both are the same", two.owes(2, 2, 0), -1);
        Check.due("no player, and wrong turns", two.purseIn(2, 0), -1);
        Check.due("no player, and wrong turns", two.purseIn(-1, 100), -1);
        Check.due("no player, and wrong turns", two.bestSeed(2, 0), -1);
        Check.due("no player, and wrong turns", two.bestSeed(-1, 61), -1);
        DiceRoads full = new DiceRoads();
        for (int i = 0; i < 10; i++) {
            full.put(Table.number("p1;p1;p1"));
        }
        Check.due("no character, and a full pad", full.put(0), -2);
        Check.due("a wrong character, and a full pad", full.put(' '), -2);
        Check.due("no slot, and nothing saved", two.restore(2), -2);
        Check.due("no slot, and nothing saved", two.restore(-1), -2);
    }

    /** A board on which no turn is possible any more. */
    private static DiceRoads late() {
        DiceRoads x = Table.with(5, 5);
        Table.advance(x, 9999);
        return x;
    }

    /** A board with debts, a full history, a slot that is used and one that is not, and a pad. */
    private static DiceRoads busy(String text) {
        DiceRoads x = Table.with(60, 40, 5, 0);
        x.set(DiceRoads.TOLL, 40);
        x.go(40);
        x.save(0);
        x.go(9);
        x.seed(77);
        x.clear(0);
        x.set(DiceRoads.DUE, 9);
        x.go(5);
        Table.write(x, text);
        return x;
    }

    /** What the calls that follow answer: of the board, the pad, the history and the slots. */
    private static String whole(DiceRoads x, String restOfPad) {
        StringBuilder whole = new StringBuilder(Table.all(x));
        whole.append(" pad ").append(x.count(15)).append(' ').append(x.fault());
        whole.append(" history ").append(x.count(16));
        Table.write(x, restOfPad);
        whole.append(" carried out ").append(x.carryOut()).append(' ').append(Table.all(x));
        for (int i = 0; i < 7; i++) {
            whole.append(" undo ").append(x.undo());
            for (int what : new int[] {0, 1, 4, 5, 8, 11, 13}) {
                whole.append(' ').append(x.count(what));
            }
        }
        whole.append(" slots ").append(x.restore(1)).append(' ').append(x.restore(0)).append(' ').append(Table.all(x));
        return whole.toString();
    }

    private static void errorsChangeNothing() {
        Map<String, ToIntFunction<DiceRoads>> calls = new LinkedHashMap<>();
        int[][] settings = {{-1, 5}, {5, 5}, {0, -1}, {0, 100}, {1, 0}, {1, 100}, {2, 0}, {2, 100}, {3, 0}, {3, 8},
            {4, 0}, {4, 21}};
        for (int[] setting : settings) {
            calls.put("set(" + setting[0] + ", " + setting[1] + ")", x -> x.set(setting[0], setting[1]));
        }
        changesThatFail(calls);
        factsThatFail(calls);
        for (Map.Entry<String, ToIntFunction<DiceRoads>> call : calls.entrySet()) {
            changesNothing(call.getKey(), () -> busy("p1;x5;t2"), "", call.getValue());
        }
        changesNothing("carryOut() of a text with a fault", () -> busy("x5;"), "t2", DiceRoads::carryOut);
        changesNothing("carryOut() of an empty text", () -> busy(""), "t2", DiceRoads::carryOut);
        Supplier<DiceRoads> nearlyFull = () -> busy("t1;".repeat(26));
        changesNothing("put() of too many", nearlyFull, "t1", x -> x.put(Table.number("t12")));
        changesNothing("go(1) at the bound of turns", ConventionsBoundaryTest::late, "x5", x -> x.go(1));
        changesNothing("go(99) at the bound of turns", ConventionsBoundaryTest::late, "x5", x -> x.go(99));
        changesNothing("go(1) without a player", DiceRoads::new, "p5", x -> x.go(1));
        changesNothing("undo() without a change", DiceRoads::new, "p5", DiceRoads::undo);
        changesNothing("restore(0) of nothing", DiceRoads::new, "p5", x -> x.restore(0));
    }

    private static void changesThatFail(Map<String, ToIntFunction<DiceRoads>> calls) {
        calls.put("player(-1)", x -> x.player(-1));
        calls.put("player(10000)", x -> x.player(10000));
        calls.put("player(5), a fifth one", x -> x.player(5));
        calls.put("seed(-1)", x -> x.seed(-1));
        calls.put("seed(10000)", x -> x.seed(10000));
        calls.put("go(0)", x -> x.go(0));
        calls.put("go(100)", x -> x.go(100));
        calls.put("clear(-1)", x -> x.clear(-1));
        calls.put("clear(4)", x -> x.clear(4));
        calls.put("put(0)", x -> x.put(0));
        calls.put("put of a space", x -> x.put(' '));
        calls.put("put of 127", x -> x.put(127));
        calls.put("put of a space behind signs", x -> x.put(Table.number(";t1 ")));
        calls.put("put of signs above no sign", x -> x.put(0x3b0031L));
        calls.put("save(-1)", x -> x.save(-1));
        calls.put("save(2)", x -> x.save(2));
        calls.put("restore(-1)", x -> x.restore(-1));
        calls.put("restore(2)", x -> x.restore(2));
        calls.put("restore(1), where nothing is saved", x -> x.restore(1));
    }

    private static void factsThatFail(Map<String, ToIntFunction<DiceRoads>> calls) {
        calls.put("of(4, 0)", x -> x.of(4, 0));
        calls.put("of(0, 9)", x -> x.of(0, 9));
        calls.put("ofSquare(20, 0)", x -> x.ofSquare(20, 0));
        calls.put("ofSquare(0, 5)", x -> x.ofSquare(0, 5));
        calls.put("owes(4, 0, 0)", x -> x.owes(4, 0, 0));
        calls.put("owes(0, 0, 0)", x -> x.owes(0, 0, 0));
        calls.put("count(17)", x -> x.count(17));
        calls.put("sign(-1)", x -> x.sign(-1));
        calls.put("sign(80)", x -> x.sign(80));
        calls.put("chain(0, 4)", x -> x.chain(0, 4));
        calls.put("emptyIn(4)", x -> x.emptyIn(4));
        calls.put("purseIn(4, 1)", x -> x.purseIn(4, 1));
        calls.put("purseIn(0, 0)", x -> x.purseIn(0, 0));
        calls.put("purseIn(0, 100)", x -> x.purseIn(0, 100));
        calls.put("bestSeed(4, 1)", x -> x.bestSeed(4, 1));
        calls.put("bestSeed(0, 0)", x -> x.bestSeed(0, 0));
        calls.put("bestSeed(0, 61)", x -> x.bestSeed(0, 61));
    }

    private static void changesNothing(String name, Supplier<DiceRoads> board, String restOfPad,
            ToIntFunction<DiceRoads> call) {
        DiceRoads x = board.get();
        int answer = call.applyAsInt(x);
        Check.that(name + " returns an error", answer >= -5 && answer <= -1);
        Check.due("behind " + name + ": all", whole(x, restOfPad), whole(board.get(), restOfPad));
    }

    private static void noneOnlyWithoutAnError() {
        DiceRoads x = Table.with(5, 5);
        Check.due("no owner", x.ofSquare(1, 1), -6);
        Check.due("no such square, so no owner", x.ofSquare(20, 1), -1);
        Check.due("no debt", x.owes(0, 1, 1), -6);
        Check.due("no such creditor, so no debt", x.owes(0, 2, 1), -1);
        Check.due("no other one, so no debt", x.owes(0, 0, 1), -2);
        Check.due("no chain", x.chain(0, 1), -6);
        Check.due("no such creditor, so no chain", x.chain(0, 2), -1);
        Check.due("no such debtor, so no chain", x.chain(2, 2), -1);
        x.set(DiceRoads.CLAIM, 7);
        Check.due("never empty", x.emptyIn(0), -6);
        Check.due("no such player, so never empty", x.emptyIn(2), -1);
        Check.due("no next player", new DiceRoads().count(2), -6);
        Table.write(x, "p1");
        Check.due("no fault", x.fault(), -6);
    }

    private static void numberedFromZero() {
        DiceRoads x = new DiceRoads();
        Check.due("the first player", x.player(7), 0);
        Check.due("the first one is next", x.count(2), 0);
        Check.due("the first square", x.of(0, 1), 0);
        Check.due("the first sign", x.sign(0), 'o');
        Check.due("the first setting", x.set(0, 33), 20);
        Check.due("the first slot", x.save(0), 1);
        Check.due("the first character", x.fault(), 0);
        Check.due("the second player", x.player(8), 1);
        Check.due("the third player", x.player(9), 2);
        Check.due("the last player", x.player(9), 3);
        Check.due("no player 4", x.of(4, 0), -1);
        Check.due("no square 20", x.ofSquare(20, 0), -1);
        Check.due("no setting 5", x.set(5, 1), -2);
        Check.due("no slot 2", x.save(2), -2);
    }

    private static void roundedDown() {
        int[][] halves = {{1, 1, 0}, {2, 1, 1}, {3, 2, 1}, {7, 4, 3}, {99, 50, 49}};
        for (int[] half : halves) {
            DiceRoads x = Table.with(100, 100, 100);
            Table.send(x, 0, 5, 6);
            Table.send(x, 1, 5, 6);
            x.set(DiceRoads.TOLL, half[0]);
            Table.send(x, 2, 5, 0);
            Check.due("of a toll of " + half[0] + " the first one gets", x.of(0, 6), half[1]);
            Check.due("of a toll of " + half[0] + " the second one gets", x.of(1, 6), half[2]);
        }
    }

    private static void setsAreBitMasks() {
        DiceRoads x = Table.with(100, 100, 100, 100);
        Check.due("no squares", x.of(3, 2), 0);
        Check.due("nobody", x.ofSquare(19, 4), 0);
        Check.due("all players", x.ofSquare(0, 4), 15);
        Table.send(x, 3, 19, 6);
        Check.due("the last square", x.of(3, 2), 1 << 19);
        Check.due("the last player", x.ofSquare(19, 4), 8);
        Table.send(x, 0, 1, 6);
        Check.due("the first road", x.of(0, 2), 2);
        Check.due("the first player", x.ofSquare(1, 4), 1);
    }
}
