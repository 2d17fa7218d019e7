import java.util.ArrayDeque;
import java.util.ArrayList;
import java.util.Arrays;
import java.util.Comparator;
import java.util.Deque;
import java.util.List;
import java.util.regex.Matcher;
import java.util.regex.Pattern;

/** The document written a second time, with the Java library and other ways, to compare answers with. */
final class Model {
    private static final String NUMBER = "(0|[1-9][0-9]{0,3})";
    private static final String ORDER = "([ptx]" + NUMBER + "|c[0-9])";
    private static final Pattern TEXT = Pattern.compile(ORDER + "(;" + ORDER + ")*");
    private static final int[][] RANGES = {{0, 99}, {1, 99}, {1, 99}, {1, 7}, {1, 20}};

    private State state = new State();
    private final Deque<State> history = new ArrayDeque<>();
    private final State[] slots = new State[2];
    private String pad = "";

    /** A player and all that is told of it. */
    private static final class Player {
        int purse;
        int square;
        int paid;
        int got;
        int turns;
        int lost;
        final int[] debts = new int[4];
        final int[] ages = new int[4];

        Player copy() {
            Player copy = new Player();
            copy.purse = purse;
            copy.square = square;
            copy.paid = paid;
            copy.got = got;
            copy.turns = turns;
            copy.lost = lost;
            System.arraycopy(debts, 0, copy.debts, 0, 4);
            System.arraycopy(ages, 0, copy.ages, 0, 4);
            return copy;
        }
    }

    private static final class State {
        int[] settings = {20, 15, 6, 3, 4};
        final List<Player> players = new ArrayList<>();
        final List<List<Integer>> owners = new ArrayList<>();
        int next;
        long x = 1;
        int turns;
        int nobody;
        int wages;

        State() {
            for (int i = 0; i < 20; i++) {
                owners.add(new ArrayList<>());
            }
        }

        State copy() {
            State copy = new State();
            copy.settings = settings.clone();
            for (Player player : players) {
                copy.players.add(player.copy());
            }
            for (int i = 0; i < 20; i++) {
                copy.owners.get(i).addAll(owners.get(i));
            }
            copy.next = next;
            copy.x = x;
            copy.turns = turns;
            copy.nobody = nobody;
            copy.wages = wages;
            return copy;
        }

        int die() {
            x = (75 * x + 74) % 65537;
            return (int) (1 + x / 8 % 6);
        }

        int toll(int square) {
            if (owners.get(square).isEmpty()) {
                return 0;
            }
            int owner = owners.get(square).get(0);
            int factor = 1;
            for (int other = 0; other < 20; other++) {
                boolean sameGroup = other / 5 == square / 5;
                if (sameGroup && other % 5 != 0 && owners.get(other).contains(owner)) {
                    factor++;
                }
            }
            return settings[2] * factor;
        }

        int pay(int from, int to, int coins) {
            Player payer = players.get(from);
            int paid = Math.min(payer.purse, coins);
            payer.purse -= paid;
            payer.paid += paid;
            players.get(to).purse += paid;
            players.get(to).got += paid;
            return paid;
        }

        List<Integer> creditorsByAge(Player player) {
            List<Integer> creditors = new ArrayList<>();
            for (int other = 0; other < 4; other++) {
                if (player.debts[other] > 0) {
                    creditors.add(other);
                }
            }
            creditors.sort(Comparator.comparing((Integer other) -> -player.ages[other]).thenComparing(other -> other));
            return creditors;
        }

        int turn() {
            int who = next;
            Player player = players.get(who);
            int paid = 0;
            for (int creditor : creditorsByAge(player)) {
                int coins = pay(who, creditor, player.debts[creditor]);
                player.debts[creditor] -= coins;
                paid += coins;
            }
            int steps = die() + die();
            for (int i = 0; i < steps; i++) {
                player.square = (player.square + 1) % 20;
                if (player.square == 0) {
                    player.purse += settings[0];
                    wages += settings[0];
                }
            }
            List<Integer> here = owners.get(player.square);
            int parts = player.square % 10 == 0 ? 0 : player.square % 5 == 0 ? 2 : 1;
            if (!here.contains(who) && here.size() < parts && die() >= settings[3] && player.purse >= settings[1]) {
                player.purse -= settings[1];
                if (here.isEmpty()) {
                    nobody += settings[1];
                } else {
                    players.get(here.get(0)).purse += settings[1];
                }
                here.add(who);
            }
            if (!here.contains(who) && !here.isEmpty()) {
                int toll = toll(player.square);
                int[] shares = here.size() == 1 ? new int[] {toll} : new int[] {toll - toll / 2, toll / 2};
                for (int i = 0; i < shares.length; i++) {
                    int coins = pay(who, here.get(i), shares[i]);
                    paid += coins;
                    if (coins < shares[i] && player.debts[here.get(i)] == 0) {
                        player.ages[here.get(i)] = 0;
                    }
                    player.debts[here.get(i)] += shares[i] - coins;
                }
            }
            for (int i = 0; i < 4; i++) {
                player.ages[i]++;
            }
            for (int creditor : creditorsByAge(player)) {
                int lowest = 0;
                while (lowest < 20 && !owners.get(lowest).contains(who)) {
                    lowest++;
                }
                if (player.ages[creditor] > settings[4] && lowest < 20) {
                    List<Integer> parts2 = owners.get(lowest);
                    if (parts2.contains(creditor)) {
                        parts2.remove((Integer) who);
                    } else {
                        parts2.set(parts2.indexOf(who), creditor);
                    }
                    player.debts[creditor] = 0;
                    player.lost++;
                }
            }
            player.turns++;
            turns++;
            next = (next + 1) % players.size();
            return paid;
        }

        int go(int number) {
            if (number < 1 || number > 99) {
                return -2;
            }
            if (players.isEmpty() || turns + number > 9999) {
                return -5;
            }
            int paid = 0;
            for (int i = 0; i < number; i++) {
                paid += turn();
            }
            return paid;
        }

        int player(int purse) {
            if (purse < 0 || purse > 9999) {
                return -2;
            }
            if (players.size() == 4) {
                return -4;
            }
            Player player = new Player();
            player.purse = purse;
            players.add(player);
            return players.size() - 1;
        }

        int seed(int seed) {
            if (seed < 0 || seed > 9999) {
                return -2;
            }
            int previous = (int) x;
            x = seed;
            return previous;
        }

        /** All rings of debts from the player on, each without the player's second mention. */
        void rings(List<Integer> way, List<List<Integer>> found) {
            Player last = players.get(way.get(way.size() - 1));
            if (last.debts[way.get(0)] > 0) {
                found.add(new ArrayList<>(way));
            }
            for (int other = 0; other < players.size(); other++) {
                if (last.debts[other] > 0 && !way.contains(other)) {
                    way.add(other);
                    rings(way, found);
                    way.remove(way.size() - 1);
                }
            }
        }

        int clear(int player) {
            if (player < 0 || player >= players.size()) {
                return -1;
            }
            int cleared = 0;
            while (true) {
                List<List<Integer>> found = new ArrayList<>();
                rings(new ArrayList<>(List.of(player)), found);
                if (found.isEmpty()) {
                    return cleared;
                }
                found.sort(Comparator.comparing((List<Integer> ring) -> ring.size()).thenComparing(List::toString));
                List<Integer> ring = found.get(0);
                int least = Integer.MAX_VALUE;
                for (int i = 0; i < ring.size(); i++) {
                    least = Math.min(least, players.get(ring.get(i)).debts[ring.get((i + 1) % ring.size())]);
                }
                for (int i = 0; i < ring.size(); i++) {
                    players.get(ring.get(i)).debts[ring.get((i + 1) % ring.size())] -= least;
                }
                cleared += least;
            }
        }

        String text() {
            StringBuilder text = new StringBuilder();
            for (int square = 0; square < 20; square++) {
                text.append("o----=----o----=----".charAt(square));
                for (int owner : owners.get(square)) {
                    text.append("abcd".charAt(owner));
                }
                for (int player = 0; player < players.size(); player++) {
                    if (players.get(player).square == square) {
                        text.append("ABCD".charAt(player));
                    }
                }
            }
            return text.toString();
        }

        int owed(int player) {
            return Arrays.stream(players.get(player).debts).sum();
        }

        int owedTo(int player) {
            return players.stream().mapToInt(other -> other.debts[player]).sum();
        }
    }

    private boolean isPlayer(int player) {
        return player >= 0 && player < state.players.size();
    }

    private void record(State before) {
        history.addLast(before);
        if (history.size() > 6) {
            history.removeFirst();
        }
    }

    private int change(State before, int answer) {
        if (answer >= 0) {
            record(before);
        }
        return answer;
    }

    int set(int setting, int value) {
        if (setting < 0 || setting > 4 || value < RANGES[setting][0] || value > RANGES[setting][1]) {
            return -2;
        }
        record(state.copy());
        int previous = state.settings[setting];
        state.settings[setting] = value;
        return previous;
    }

    int player(int purse) {
        return change(state.copy(), state.player(purse));
    }

    int seed(int seed) {
        return change(state.copy(), state.seed(seed));
    }

    int go(int turns) {
        return change(state.copy(), state.go(turns));
    }

    int clear(int player) {
        return change(state.copy(), state.clear(player));
    }

    int of(int player, int what) {
        if (!isPlayer(player)) {
            return -1;
        }
        if (what < 0 || what > 8) {
            return -2;
        }
        Player p = state.players.get(player);
        int squares = 0;
        for (int square = 0; square < 20; square++) {
            squares += state.owners.get(square).contains(player) ? 1 << square : 0;
        }
        return new int[] {p.purse, p.square, squares, state.owed(player), state.owedTo(player), p.paid, p.got, p.turns,
            p.lost}[what];
    }

    int ofSquare(int square, int what) {
        if (square < 0 || square > 19) {
            return -1;
        }
        if (what < 0 || what > 4) {
            return -2;
        }
        List<Integer> owners = state.owners.get(square);
        int here = 0;
        for (int player = 0; player < state.players.size(); player++) {
            here += state.players.get(player).square == square ? 1 << player : 0;
        }
        return new int[] {"o-=".indexOf("o----=----".charAt(square % 10)), owners.isEmpty() ? -6 : owners.get(0),
            owners.size() < 2 ? -6 : owners.get(1), state.toll(square), here}[what];
    }

    int owes(int debtor, int creditor, int what) {
        if (!isPlayer(debtor) || !isPlayer(creditor)) {
            return -1;
        }
        if (what != 0 && what != 1 || debtor == creditor) {
            return -2;
        }
        Player p = state.players.get(debtor);
        return what == 0 ? p.debts[creditor] : p.debts[creditor] == 0 ? -6 : p.ages[creditor];
    }

    int count(int what) {
        if (what < 0 || what > 16) {
            return -2;
        }
        int debts = 0;
        int coins = 0;
        int owed = 0;
        for (Player player : state.players) {
            coins += player.purse;
            for (int debt : player.debts) {
                debts += debt > 0 ? 1 : 0;
                owed += debt;
            }
        }
        int[] s = state.settings;
        return new int[] {state.turns, state.players.size(), state.players.isEmpty() ? -6 : state.next, debts, coins,
            owed, state.nobody, state.wages, (int) state.x, s[0], s[1], s[2], s[3], s[4], state.text().length(),
            pad.length(), history.size()}[what];
    }

    int sign(int place) {
        String text = state.text();
        return place >= 0 && place < text.length() ? text.charAt(place) : -1;
    }

    int chain(int debtor, int creditor) {
        if (!isPlayer(debtor) || !isPlayer(creditor)) {
            return -1;
        }
        int shortest = shortest(debtor, creditor, 4);
        return shortest > 4 ? -6 : shortest;
    }

    private int shortest(int debtor, int creditor, int most) {
        int best = 99;
        for (int other = 0; other < state.players.size() && most > 0; other++) {
            if (state.players.get(debtor).debts[other] > 0) {
                best = Math.min(best, other == creditor ? 1 : 1 + shortest(other, creditor, most - 1));
            }
        }
        return best;
    }

    int emptyIn(int player) {
        if (!isPlayer(player)) {
            return -1;
        }
        State trial = state.copy();
        int turns = 0;
        while (trial.players.get(player).purse > 0) {
            if (turns == 400) {
                return -6;
            }
            trial.turn();
            turns++;
        }
        return turns;
    }

    int purseIn(int player, int turns) {
        if (!isPlayer(player)) {
            return -1;
        }
        if (turns < 1 || turns > 99) {
            return -2;
        }
        State trial = state.copy();
        for (int i = 0; i < turns; i++) {
            trial.turn();
        }
        return trial.players.get(player).purse;
    }

    int bestSeed(int player, int turns) {
        if (!isPlayer(player)) {
            return -1;
        }
        if (turns < 1 || turns > 60) {
            return -2;
        }
        int best = 0;
        int most = Integer.MIN_VALUE;
        for (int seed = 49; seed >= 0; seed--) {
            State trial = state.copy();
            trial.x = seed;
            for (int i = 0; i < turns; i++) {
                trial.turn();
            }
            int wealth = trial.players.get(player).purse + trial.owedTo(player) - trial.owed(player);
            if (wealth >= most) {
                most = wealth;
                best = seed;
            }
        }
        return best;
    }

    int put(long characters) {
        StringBuilder text = new StringBuilder();
        boolean ended = false;
        for (int i = 0; i < 8; i++) {
            int code = (int) (characters >>> 8 * i) & 255;
            if (code == 0) {
                ended = true;
            } else if (ended || code < 33 || code > 126) {
                return -2;
            } else {
                text.insert(0, (char) code);
            }
        }
        if (text.length() == 0) {
            return -2;
        }
        if (pad.length() + text.length() > 80) {
            return -4;
        }
        pad += text;
        return pad.length();
    }

    int wipe() {
        int length = pad.length();
        pad = "";
        return length;
    }

    int fault() {
        if (TEXT.matcher(pad).matches()) {
            return -6;
        }
        for (int length = 1; length <= pad.length(); length++) {
            Matcher matcher = TEXT.matcher(pad.substring(0, length));
            if (!matcher.matches() && !matcher.hitEnd()) {
                return length - 1;
            }
        }
        return pad.length();
    }

    int carryOut() {
        if (fault() != -6) {
            return -3;
        }
        record(state.copy());
        int done = 0;
        for (String order : pad.split(";")) {
            int number = Integer.parseInt(order.substring(1));
            char letter = order.charAt(0);
            int answer = letter == 'p' ? state.player(number) : letter == 't' ? state.go(number)
                    : letter == 'x' ? state.seed(number) : state.clear(number);
            if (answer < 0) {
                break;
            }
            done++;
        }
        pad = "";
        return done;
    }

    int undo() {
        if (history.isEmpty()) {
            return -5;
        }
        state = history.removeLast();
        return history.size();
    }

    int save(int slot) {
        if (slot != 0 && slot != 1) {
            return -2;
        }
        slots[slot] = state.copy();
        return state.players.size();
    }

    int restore(int slot) {
        if (slot != 0 && slot != 1) {
            return -2;
        }
        if (slots[slot] == null) {
            return -5;
        }
        record(state.copy());
        state = slots[slot].copy();
        return state.players.size();
    }
}
