/** Ways of playing on a board by dice that a test chooses, and of reading it. */
final class Table {
    private Table() {
    }

    /** A new board with players who have these purses. */
    static DiceRoads with(int... purses) {
        DiceRoads x = new DiceRoads();
        for (int purse : purses) {
            x.player(purse);
        }
        return x;
    }

    /** Does one turn with these dice, and returns what go() does. */
    static int turn(DiceRoads x, int... dice) {
        x.seed(seedFor(dice));
        return x.go(1);
    }

    /** The least seed behind which these dice are thrown. */
    static int seedFor(int... dice) {
        for (int seed = 0; seed <= 9999; seed++) {
            if (throwsThese(seed, dice)) {
                return seed;
            }
        }
        throw new IllegalArgumentException("no seed throws these dice");
    }

    private static boolean throwsThese(int seed, int[] dice) {
        int x = seed;
        for (int die : dice) {
            x = (75 * x + 74) % 65537;
            if (1 + x / 8 % 6 != die) {
                return false;
            }
        }
        return true;
    }

    /** Puts a text of any length on the pad, and returns the last answer of put(). */
    static int write(DiceRoads x, String text) {
        int answer = x.count(15);
        for (int start = 0; start < text.length(); start += 8) {
            answer = x.put(number(text.substring(start, Math.min(start + 8, text.length()))));
        }
        return answer;
    }

    /** Up to eight characters as the number that put() takes. */
    static long number(String text) {
        long number = 0;
        for (int i = 0; i < text.length(); i++) {
            number = number << 8 | text.charAt(i);
        }
        return number;
    }

    /** The text of the board. */
    static String text(DiceRoads x) {
        StringBuilder text = new StringBuilder();
        for (int place = 0; x.sign(place) >= 0; place++) {
            text.append((char) x.sign(place));
        }
        return text.toString();
    }

    /** Everything that can be read of the board, but for the pad and the history. */
    static String all(DiceRoads x) {
        StringBuilder all = new StringBuilder(text(x));
        for (int what = 0; what <= 14; what++) {
            all.append(' ').append(x.count(what));
        }
        int players = x.count(1);
        for (int player = 0; player < players; player++) {
            for (int what = 0; what <= 8; what++) {
                all.append(' ').append(x.of(player, what));
            }
            for (int other = 0; other < players; other++) {
                all.append(' ').append(x.owes(player, other, 0)).append(' ').append(x.owes(player, other, 1));
            }
        }
        return all.toString();
    }
}
