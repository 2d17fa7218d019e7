import java.util.function.BooleanSupplier;
import java.util.function.Supplier;

/** Ways of playing on a board by dice that a test chooses, and of reading it. */
final class Table {
    /** Far more turns than a test waits for anything. */
    private static final int PATIENCE = 40;
    private static final int MOST_SIGNS = 100;

    private Table() {
    }

    /** A new board with players who have these purses. */
    static DiceRoads with(int... purses) {
        DiceRoads x = new DiceRoads();
        for (int purse : purses) {
            x.player(purse);
        }
        return x;
    }

    /** Does one turn with these dice, and returns what go() does. */
    static int turn(DiceRoads x, int... dice) {
        x.seed(seedFor(dice));
        return x.go(1);
    }

    /** The next player goes to the next inn, where it has nothing to claim or to pay. */
    static void rest(DiceRoads x) {
        int way = 10 - x.of(x.count(2), 1) % 10;
        way = way < 2 ? way + 10 : way;
        turn(x, way / 2, way - way / 2);
    }

    /** All players in turn go to their next inns, for so many rounds. */
    static void restAll(DiceRoads x, int rounds) {
        int turns = rounds * x.count(1);
        for (int i = 0; i < turns; i++) {
            rest(x);
        }
    }

    /** The players go from inn to inn until something is so; a test that waits for ever would not fail. */
    static void restUntil(DiceRoads x, BooleanSupplier isSo) {
        for (int i = 0; i < PATIENCE; i++) {
            if (isSo.getAsBoolean()) {
                return;
            }
            rest(x);
        }
        throw new IllegalStateException("what the test waits for does not come: " + all(x));
    }

    /**
     * The player comes to the square, and throws this third die there, or whichever comes if it is 0; before that it
     * and all others go from inn to inn. Returns what go() does.
     */
    static int send(DiceRoads x, int player, int square, int thirdDie) {
        for (int i = 0; i < PATIENCE; i++) {
            int way = (square - x.of(player, 1) + 20) % 20;
            if (x.count(2) == player && way >= 2 && way <= 12) {
                int die = way / 2;
                return thirdDie == 0 ? turn(x, die, way - die) : turn(x, die, way - die, thirdDie);
            }
            rest(x);
        }
        throw new IllegalStateException("player " + player + " does not come to " + square);
    }

    /** Does so many turns, however many they are. */
    static void advance(DiceRoads x, int turns) {
        for (int left = turns; left > 0; left -= 99) {
            x.go(Math.min(left, 99));
        }
    }

    /** Behind how many turns the purse of the player is empty for the first time, -6 if it is not within the most. */
    static int firstEmpty(Supplier<DiceRoads> board, int player, int most) {
        DiceRoads x = board.get();
        for (int turns = 0; turns <= most; turns++) {
            // a new board from time to time, since one is good for 512 calls only
            if (turns % 200 == 0) {
                x = board.get();
                advance(x, turns);
            }
            if (x.of(player, 0) == 0) {
                return turns;
            }
            x.go(1);
        }
        return -6;
    }

    /** The least seed behind which these dice are thrown. */
    static int seedFor(int... dice) {
        for (int seed = 0; seed <= 9999; seed++) {
            if (throwsThese(seed, dice)) {
                return seed;
            }
        }
        throw new IllegalArgumentException("no seed throws these dice");
    }

    private static boolean throwsThese(int seed, int[] dice) {
        int x = seed;
        for (int die : dice) {
            x = (75 * x + 74) % 65537;
            if (1 + x / 8 % 6 != die) {
                return false;
            }
        }
        return true;
    }

    /** Puts a text of any length on the pad, and returns the last answer of put(). */
    static int write(DiceRoads x, String text) {
        int answer = x.count(15);
        for (int start = 0; start < text.length(); start += 8) {
            answer = x.put(number(text.substring(start, Math.min(start + 8, text.length()))));
        }
        return answer;
    }

    /** Up to eight characters as the number that put() takes. */
    static long number(String text) {
        long number = 0;
        for (int i = 0; i < text.length(); i++) {
            number = number << 8 | text.charAt(i);
        }
        return number;
    }

    /** The text of the board. */
    static String text(DiceRoads x) {
        StringBuilder text = new StringBuilder();
        int sign = x.sign(0);
        for (int place = 1; sign >= 0 && place <= MOST_SIGNS; place++) {
            text.append((char) sign);
            sign = x.sign(place);
        }
        return text.toString();
    }

    /** Everything that can be read of the board, but for the pad and the history. */
    static String all(DiceRoads x) {
        StringBuilder all = new StringBuilder(text(x));
        for (int what = 0; what <= 14; what++) {
            all.append(' ').append(x.count(what));
        }
        int players = x.count(1);
        for (int player = 0; player < players; player++) {
            for (int what = 0; what <= 8; what++) {
                all.append(' ').append(x.of(player, what));
            }
            for (int other = 0; other < players; other++) {
                if (other != player) {
                    all.append(' ').append(x.owes(player, other, 0)).append(' ').append(x.owes(player, other, 1));
                }
            }
        }
        return all.toString();
    }
}
