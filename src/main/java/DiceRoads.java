/**
 * Toll roads that are claimed by dice: a ring of squares, players with purses, bridges that two share,
 * tolls, debts, what-ifs, orders that are read from a text, undo and saved states.
 */
public final class DiceRoads {
    public static final int NO_SUCH = -1, BAD_VALUE = -2, BAD_TEXT = -3, TOO_MANY = -4, NOT_POSSIBLE = -5, NONE = -6;
    public static final int WAGE = 0, PRICE = 1, TOLL = 2, CLAIM = 3, DUE = 4;

    private static final int SETTINGS = 5;
    private static final int[] FIRST_VALUES = {20, 15, 6, 3, 4};
    private static final int[] LEAST_VALUES = {0, 1, 1, 1, 1};
    private static final int[] MOST_VALUES = {99, 99, 99, 7, 20};

    private static final int PLAYERS = 4;
    private static final int SQUARES = 20;
    private static final int GROUP = 5;
    private static final int INN = 0, ROAD = 1, BRIDGE = 2;

    private static final int MOST_NUMBER = 9999;
    private static final int MOST_TURNS = 9999;
    private static final int MOST_GO = 99;
    private static final int MOST_PURSE_TURNS = 99;
    private static final int MOST_SEED_TURNS = 60;
    private static final int TRIED_SEEDS = 50;
    private static final int EMPTY_WITHIN = 400;

    private static final int PAD_ROOM = 80;
    private static final int PUT_SIGNS = 8;
    // each square's sign, an owner of each road, two of each bridge, and the players
    private static final int BOARD_ROOM = SQUARES + 16 + 4 + PLAYERS;
    private static final int HISTORY = 6;
    private static final int SLOTS = 2;

    private final Board board = new Board();
    private final Board trial = new Board();
    private final History history = new History();
    private final Board[] slots = new Board[SLOTS];
    private final Line pad = new Line(PAD_ROOM);
    private final Line boardText = new Line(BOARD_ROOM);

    public DiceRoads() {
    }

    // ---- changes

    public int set(int setting, int value) {
        history.stage(board);
        return changed(board.changeSetting(setting, value));
    }

    public int player(int purse) {
        history.stage(board);
        return changed(board.addPlayer(purse));
    }

    public int seed(int seed) {
        history.stage(board);
        return changed(board.changeDraws(seed));
    }

    public int go(int turns) {
        history.stage(board);
        return changed(board.doTurns(turns));
    }

    public int clear(int player) {
        history.stage(board);
        return changed(board.clearAround(player));
    }

    /** Keeps the staged state in the history, unless the answer is an error. */
    private int changed(int answer) {
        if (answer >= 0) {
            history.keepStaged();
        }
        return answer;
    }

    // ---- what there is

    public int of(int player, int what) {
        return board.hasPlayer(player) ? board.factOfPlayer(player, what) : NO_SUCH;
    }

    public int ofSquare(int square, int what) {
        return square >= 0 && square < SQUARES ? board.factOfSquare(square, what) : NO_SUCH;
    }

    public int owes(int debtor, int creditor, int what) {
        if (!board.hasPlayer(debtor) || !board.hasPlayer(creditor)) {
            return NO_SUCH;
        }
        if (what < 0 || what > 1 || debtor == creditor) {
            return BAD_VALUE;
        }
        return what == 0 ? board.debts.coinsOf(debtor, creditor) : board.debts.ageOf(debtor, creditor);
    }

    public int count(int what) {
        switch (what) {
            case 14:
                board.describe(boardText);
                return boardText.length();
            case 15:
                return pad.length();
            case 16:
                return history.kept();
            default:
                return board.fact(what);
        }
    }

    public int sign(int place) {
        board.describe(boardText);
        return boardText.at(place);
    }

    // ---- what if; nothing changes (the bound of turns does not matter)

    public int chain(int debtor, int creditor) {
        if (!board.hasPlayer(debtor) || !board.hasPlayer(creditor)) {
            return NO_SUCH;
        }
        return board.debts.distance(debtor, creditor);
    }

    public int emptyIn(int player) {
        if (!board.hasPlayer(player)) {
            return NO_SUCH;
        }
        trial.copyFrom(board);
        for (int turns = 0; turns <= EMPTY_WITHIN; turns++) {
            if (trial.purseOf(player) == 0) {
                return turns;
            }
            trial.takeTurn();
        }
        return NONE;
    }

    public int purseIn(int player, int turns) {
        if (!board.hasPlayer(player)) {
            return NO_SUCH;
        }
        if (turns < 1 || turns > MOST_PURSE_TURNS) {
            return BAD_VALUE;
        }
        trial.copyFrom(board);
        trial.takeTurns(turns);
        return trial.purseOf(player);
    }

    public int bestSeed(int player, int turns) {
        if (!board.hasPlayer(player)) {
            return NO_SUCH;
        }
        if (turns < 1 || turns > MOST_SEED_TURNS) {
            return BAD_VALUE;
        }
        int best = 0;
        int most = 0;
        for (int seed = 0; seed < TRIED_SEEDS; seed++) {
            trial.copyFrom(board);
            trial.changeDraws(seed);
            trial.takeTurns(turns);
            int wealth = trial.wealthOf(player);
            if (seed == 0 || wealth > most) {
                best = seed;
                most = wealth;
            }
        }
        return best;
    }

    // ---- texts

    public int put(long characters) {
        int signs = Orders.signsIn(characters);
        if (signs == 0) {
            return BAD_VALUE;
        }
        if (pad.length() + signs > PAD_ROOM) {
            return TOO_MANY;
        }
        for (int i = signs - 1; i >= 0; i--) {
            pad.append(Orders.signOf(characters, i));
        }
        return pad.length();
    }

    public int wipe() {
        int length = pad.length();
        pad.makeEmpty();
        return length;
    }

    public int fault() {
        return Orders.firstFault(pad);
    }

    public int carryOut() {
        if (Orders.firstFault(pad) != NONE) {
            return BAD_TEXT;
        }
        history.stage(board);
        int done = 0;
        int letter = 0;
        int number = 0;
        boolean going = true;
        for (int i = 0; i <= pad.length() && going; i++) {
            // the text's end ends an order as the sign between two orders does
            int sign = i < pad.length() ? pad.at(i) : ';';
            if (sign == ';') {
                going = obey(letter, number) >= 0;
                done += going ? 1 : 0;
                number = 0;
            } else if (Orders.isDigit(sign)) {
                number = 10 * number + sign - '0';
            } else {
                letter = sign;
            }
        }
        history.keepStaged();
        pad.makeEmpty();
        return done;
    }

    /** Carries one order out and records nothing; returns what its method would return. */
    private int obey(int letter, int number) {
        switch (letter) {
            case 'p':
                return board.addPlayer(number);
            case 't':
                return board.doTurns(number);
            case 'x':
                return board.changeDraws(number);
            case 'c':
                return board.clearAround(number);
            default:
                return BAD_TEXT;
        }
    }

    // ---- undo, saving

    public int undo() {
        return history.stepBack(board);
    }

    public int save(int slot) {
        if (slot < 0 || slot >= slots.length) {
            return BAD_VALUE;
        }
        Board saved = slots[slot];
        if (saved == null) {
            saved = new Board();
            slots[slot] = saved;
        }
        saved.copyFrom(board);
        return board.players();
    }

    public int restore(int slot) {
        if (slot < 0 || slot >= slots.length) {
            return BAD_VALUE;
        }
        Board saved = slots[slot];
        if (saved == null) {
            return NOT_POSSIBLE;
        }
        history.stage(board);
        board.copyFrom(saved);
        return changed(board.players());
    }

    /** Numbers at places from 0 on. Outside of them it answers what an empty place does, and writes nothing. */
    private static final class Row {
        private final int[] cells;
        private final int empty;

        Row(int length, int empty) {
            this.cells = new int[Math.max(length, 0)];
            this.empty = empty;
            for (int i = 0; i < cells.length; i++) {
                cells[i] = empty;
            }
        }

        int at(int place) {
            return place >= 0 && place < cells.length ? cells[place] : empty;
        }

        void write(int place, int value) {
            if (place >= 0 && place < cells.length) {
                cells[place] = value;
            }
        }

        void add(int place, int value) {
            if (place >= 0 && place < cells.length) {
                cells[place] += value;
            }
        }

        int sum() {
            int sum = 0;
            for (int i = 0; i < cells.length; i++) {
                sum += cells[i];
            }
            return sum;
        }

        void copyFrom(Row other) {
            for (int i = 0; i < cells.length && i < other.cells.length; i++) {
                cells[i] = other.cells[i];
            }
        }
    }

    /** The squares: which sort they are of, who owns them, what their tolls are. */
    private static final class Roads {
        private final Row first = new Row(SQUARES, NONE);
        private final Row second = new Row(SQUARES, NONE);

        void copyFrom(Roads other) {
            first.copyFrom(other.first);
            second.copyFrom(other.second);
        }

        static int sortOf(int square) {
            if (square % GROUP != 0) {
                return ROAD;
            }
            return square % (2 * GROUP) == 0 ? INN : BRIDGE;
        }

        int firstOwner(int square) {
            return first.at(square);
        }

        int secondOwner(int square) {
            return second.at(square);
        }

        boolean isOwnedBy(int square, int player) {
            return first.at(square) == player || second.at(square) == player;
        }

        /** Whether a part of the square is left that somebody could claim. */
        boolean hasFreePart(int square) {
            int sort = sortOf(square);
            // a second owner is there only behind a first one
            return sort == ROAD && first.at(square) == NONE || sort == BRIDGE && second.at(square) == NONE;
        }

        void giveFreePart(int square, int player) {
            if (first.at(square) == NONE) {
                first.write(square, player);
            } else {
                second.write(square, player);
            }
        }

        /** Hands the part of the loser on to the winner. */
        void handOn(int square, int loser, int winner) {
            boolean loserIsFirst = first.at(square) == loser;
            int other = loserIsFirst ? second.at(square) : first.at(square);
            if (other == winner) {
                first.write(square, winner);
                second.write(square, NONE);
            } else if (loserIsFirst) {
                first.write(square, winner);
            } else {
                second.write(square, winner);
            }
        }

        int lowestOf(int player) {
            for (int square = 0; square < SQUARES; square++) {
                if (first.at(square) == player || second.at(square) == player) {
                    return square;
                }
            }
            return NONE;
        }

        int squaresOf(int player) {
            int set = 0;
            for (int square = 0; square < SQUARES; square++) {
                if (first.at(square) == player || second.at(square) == player) {
                    set |= 1 << square;
                }
            }
            return set;
        }

        /** The toll of a square, 0 if nobody owns it. */
        int toll(int square, int rate) {
            int owner = first.at(square);
            if (owner == NONE) {
                return 0;
            }
            int start = square / GROUP * GROUP;
            int roads = 0;
            for (int other = start; other < start + GROUP; other++) {
                if (sortOf(other) == ROAD && first.at(other) == owner) {
                    roads++;
                }
            }
            return rate * (1 + roads);
        }
    }

    /** What the players owe one another, and since when. */
    private static final class Debts {
        private final Row coins = new Row(PLAYERS * PLAYERS, 0);
        private final Row ages = new Row(PLAYERS * PLAYERS, NONE);
        // the players around a ring of debts: used only while one is cleared, so never copied
        private final Row ring = new Row(PLAYERS + 1, NONE);

        void copyFrom(Debts other) {
            coins.copyFrom(other.coins);
            ages.copyFrom(other.ages);
        }

        int coinsOf(int debtor, int creditor) {
            return coins.at(debtor * PLAYERS + creditor);
        }

        /** The age of a debt, NONE if there is none. */
        int ageOf(int debtor, int creditor) {
            return ages.at(debtor * PLAYERS + creditor);
        }

        void grow(int debtor, int creditor, int more) {
            int place = debtor * PLAYERS + creditor;
            if (more > 0 && coins.at(place) == 0) {
                ages.write(place, 0);
            }
            coins.add(place, more);
        }

        void shrink(int debtor, int creditor, int less) {
            int place = debtor * PLAYERS + creditor;
            coins.add(place, -less);
            if (coins.at(place) == 0) {
                ages.write(place, NONE);
            }
        }

        void makeOlder(int debtor) {
            for (int creditor = 0; creditor < PLAYERS; creditor++) {
                int place = debtor * PLAYERS + creditor;
                if (coins.at(place) > 0) {
                    ages.add(place, 1);
                }
            }
        }

        /** The creditor of the oldest debt, of several the lowest one; NONE if there is no debt. */
        int oldestOf(int debtor) {
            int creditor = NONE;
            int age = NONE;
            for (int other = 0; other < PLAYERS; other++) {
                int place = debtor * PLAYERS + other;
                if (coins.at(place) > 0 && ages.at(place) > age) {
                    creditor = other;
                    age = ages.at(place);
                }
            }
            return creditor;
        }

        int owedBy(int player) {
            int sum = 0;
            for (int other = 0; other < PLAYERS; other++) {
                sum += coins.at(player * PLAYERS + other);
            }
            return sum;
        }

        int owedTo(int player) {
            int sum = 0;
            for (int other = 0; other < PLAYERS; other++) {
                sum += coins.at(other * PLAYERS + player);
            }
            return sum;
        }

        int inAll() {
            return coins.sum();
        }

        int howMany() {
            int debts = 0;
            for (int place = 0; place < PLAYERS * PLAYERS; place++) {
                debts += coins.at(place) > 0 ? 1 : 0;
            }
            return debts;
        }

        /** By how many debts, at least one, the debtor owes the creditor; NONE if it does not. */
        int distance(int debtor, int creditor) {
            int reached = 1 << debtor;
            for (int steps = 1; steps <= PLAYERS; steps++) {
                int further = 0;
                for (int place = 0; place < PLAYERS * PLAYERS; place++) {
                    if ((reached >> place / PLAYERS & 1) == 1 && coins.at(place) > 0) {
                        further |= 1 << place % PLAYERS;
                    }
                }
                if ((further >> creditor & 1) == 1) {
                    return steps;
                }
                reached = further;
            }
            return NONE;
        }

        /** Clears the shortest and lowest ring from the player on; returns by how much, 0 if there is none. */
        int clearRing(int player) {
            int steps = distance(player, player);
            if (steps == NONE) {
                return 0;
            }
            ring.write(0, player);
            int least = 0;
            for (int step = 0; step < steps; step++) {
                int debtor = ring.at(step);
                int creditor = nextOnRing(debtor, player, steps - step);
                ring.write(step + 1, creditor);
                int debt = coinsOf(debtor, creditor);
                least = step == 0 ? debt : Math.min(least, debt);
            }
            for (int step = 0; step < steps; step++) {
                shrink(ring.at(step), ring.at(step + 1), least);
            }
            return least;
        }

        /** The lowest creditor of the debtor from which the ring's end is as near as the steps left allow. */
        private int nextOnRing(int debtor, int end, int stepsLeft) {
            if (stepsLeft == 1) {
                return end;
            }
            for (int other = 0; other < PLAYERS; other++) {
                if (coinsOf(debtor, other) > 0 && distance(other, end) == stepsLeft - 1) {
                    return other;
                }
            }
            return NONE;
        }
    }

    /** All that a change can change: settings, draws, players, squares and debts. */
    private static final class Board {
        final Roads roads = new Roads();
        final Debts debts = new Debts();
        private final Row settings = new Row(SETTINGS, 0);
        private final Row purses = new Row(PLAYERS, 0);
        private final Row places = new Row(PLAYERS, 0);
        private final Row tollsPaid = new Row(PLAYERS, 0);
        private final Row tollsGot = new Row(PLAYERS, 0);
        private final Row turnsDone = new Row(PLAYERS, 0);
        private final Row squaresLost = new Row(PLAYERS, 0);
        private int players = 0;
        private int next = 0;
        private int draw = 1;
        private int turns = 0;
        private int paidToNobody = 0;
        private int wages = 0;

        Board() {
            for (int setting = 0; setting < FIRST_VALUES.length; setting++) {
                settings.write(setting, FIRST_VALUES[setting]);
            }
        }

        void copyFrom(Board other) {
            roads.copyFrom(other.roads);
            debts.copyFrom(other.debts);
            settings.copyFrom(other.settings);
            purses.copyFrom(other.purses);
            places.copyFrom(other.places);
            tollsPaid.copyFrom(other.tollsPaid);
            tollsGot.copyFrom(other.tollsGot);
            turnsDone.copyFrom(other.turnsDone);
            squaresLost.copyFrom(other.squaresLost);
            players = other.players;
            next = other.next;
            draw = other.draw;
            turns = other.turns;
            paidToNobody = other.paidToNobody;
            wages = other.wages;
        }

        // ---- changes: each returns an error and changes nothing, or a number from 0 on

        int changeSetting(int setting, int value) {
            if (setting < 0 || setting >= LEAST_VALUES.length || setting >= MOST_VALUES.length) {
                return BAD_VALUE;
            }
            if (value < LEAST_VALUES[setting] || value > MOST_VALUES[setting]) {
                return BAD_VALUE;
            }
            int previous = settings.at(setting);
            settings.write(setting, value);
            return previous;
        }

        int addPlayer(int purse) {
            if (purse < 0 || purse > MOST_NUMBER) {
                return BAD_VALUE;
            }
            if (players >= PLAYERS) {
                return TOO_MANY;
            }
            purses.write(players, purse);
            players++;
            return players - 1;
        }

        int changeDraws(int seed) {
            if (seed < 0 || seed > MOST_NUMBER) {
                return BAD_VALUE;
            }
            int previous = draw;
            draw = seed;
            return previous;
        }

        /** Returns the coins of tolls that are paid in the turns. */
        int doTurns(int more) {
            if (more < 1 || more > MOST_GO) {
                return BAD_VALUE;
            }
            if (players == 0 || turns + more > MOST_TURNS) {
                return NOT_POSSIBLE;
            }
            int paidBefore = tollsPaid.sum();
            for (int i = 0; i < more; i++) {
                takeTurn();
            }
            return tollsPaid.sum() - paidBefore;
        }

        /** Returns by how many coins the player's debts become less. */
        int clearAround(int player) {
            if (!hasPlayer(player)) {
                return NO_SUCH;
            }
            int cleared = 0;
            // each ring that is cleared ends a debt at least
            for (int i = 0; i < PLAYERS * PLAYERS; i++) {
                int less = debts.clearRing(player);
                if (less == 0) {
                    break;
                }
                cleared += less;
            }
            return cleared;
        }

        // ---- a turn

        /** Does turns whatever their number so far is. */
        void takeTurns(int more) {
            for (int i = 0; i < more; i++) {
                takeTurn();
            }
        }

        void takeTurn() {
            if (players == 0) {
                return;
            }
            int player = next;
            payDebts(player);
            move(player);
            tryToClaim(player);
            payToll(player);
            debts.makeOlder(player);
            loseSquares(player);
            turnsDone.add(player, 1);
            turns++;
            next = next + 1 < players ? next + 1 : 0;
        }

        private void payDebts(int player) {
            // a debt that is not paid in full leaves the purse empty, so no other one is passed over
            for (int i = 0; i < PLAYERS && purses.at(player) > 0; i++) {
                int creditor = debts.oldestOf(player);
                if (creditor == NONE) {
                    return;
                }
                int paid = payWhatThereIs(player, creditor, debts.coinsOf(player, creditor));
                debts.shrink(player, creditor, paid);
            }
        }

        /** Pays as much of the coins as the purse has, and returns how much that is. */
        private int payWhatThereIs(int player, int creditor, int coins) {
            int paid = Math.min(coins, purses.at(player));
            purses.add(player, -paid);
            purses.add(creditor, paid);
            tollsPaid.add(player, paid);
            tollsGot.add(creditor, paid);
            return paid;
        }

        private void move(int player) {
            int firstDie = throwDie();
            int target = places.at(player) + firstDie + throwDie();
            int wage = target / SQUARES * settings.at(WAGE);
            places.write(player, target % SQUARES);
            purses.add(player, wage);
            wages += wage;
        }

        private int throwDie() {
            draw = (75 * draw + 74) % 65537;
            return 1 + draw / 8 % 6;
        }

        private void tryToClaim(int player) {
            int square = places.at(player);
            if (roads.isOwnedBy(square, player) || !roads.hasFreePart(square)) {
                return;
            }
            int price = settings.at(PRICE);
            // the die is thrown whatever the purse has
            if (throwDie() < settings.at(CLAIM) || purses.at(player) < price) {
                return;
            }
            int owner = roads.firstOwner(square);
            purses.add(player, -price);
            if (owner == NONE) {
                paidToNobody += price;
            } else {
                purses.add(owner, price);
            }
            roads.giveFreePart(square, player);
        }

        private void payToll(int player) {
            int square = places.at(player);
            int firstOwner = roads.firstOwner(square);
            int secondOwner = roads.secondOwner(square);
            if (firstOwner == NONE || roads.isOwnedBy(square, player)) {
                return;
            }
            int toll = roads.toll(square, settings.at(TOLL));
            int secondPart = secondOwner == NONE ? 0 : toll / 2;
            int firstPart = toll - secondPart;
            debts.grow(player, firstOwner, firstPart - payWhatThereIs(player, firstOwner, firstPart));
            if (secondOwner != NONE) {
                debts.grow(player, secondOwner, secondPart - payWhatThereIs(player, secondOwner, secondPart));
            }
        }

        private void loseSquares(int player) {
            for (int i = 0; i < PLAYERS; i++) {
                int creditor = debts.oldestOf(player);
                if (creditor == NONE || debts.ageOf(player, creditor) <= settings.at(DUE)) {
                    return;
                }
                int square = roads.lowestOf(player);
                if (square == NONE) {
                    return;
                }
                roads.handOn(square, player, creditor);
                debts.shrink(player, creditor, debts.coinsOf(player, creditor));
                squaresLost.add(player, 1);
            }
        }

        // ---- what there is

        boolean hasPlayer(int player) {
            return player >= 0 && player < players;
        }

        int players() {
            return players;
        }

        int purseOf(int player) {
            return purses.at(player);
        }

        int wealthOf(int player) {
            return purses.at(player) + debts.owedTo(player) - debts.owedBy(player);
        }

        int factOfPlayer(int player, int what) {
            switch (what) {
                case 0:
                    return purses.at(player);
                case 1:
                    return places.at(player);
                case 2:
                    return roads.squaresOf(player);
                case 3:
                    return debts.owedBy(player);
                case 4:
                    return debts.owedTo(player);
                case 5:
                    return tollsPaid.at(player);
                case 6:
                    return tollsGot.at(player);
                case 7:
                    return turnsDone.at(player);
                case 8:
                    return squaresLost.at(player);
                default:
                    return BAD_VALUE;
            }
        }

        int factOfSquare(int square, int what) {
            switch (what) {
                case 0:
                    return Roads.sortOf(square);
                case 1:
                    return roads.firstOwner(square);
                case 2:
                    return roads.secondOwner(square);
                case 3:
                    return roads.toll(square, settings.at(TOLL));
                case 4:
                    return playersOn(square);
                default:
                    return BAD_VALUE;
            }
        }

        private int playersOn(int square) {
            int set = 0;
            for (int player = 0; player < players; player++) {
                if (places.at(player) == square) {
                    set |= 1 << player;
                }
            }
            return set;
        }

        int fact(int what) {
            switch (what) {
                case 0:
                    return turns;
                case 1:
                    return players;
                case 2:
                    return players == 0 ? NONE : next;
                case 3:
                    return debts.howMany();
                case 4:
                    return purses.sum();
                case 5:
                    return debts.inAll();
                case 6:
                    return paidToNobody;
                case 7:
                    return wages;
                case 8:
                    return draw;
                default:
                    return what >= 9 && what < 9 + SETTINGS ? settings.at(what - 9) : BAD_VALUE;
            }
        }

        /** Writes the text of the board into the line. */
        void describe(Line text) {
            text.makeEmpty();
            for (int square = 0; square < SQUARES; square++) {
                int sort = Roads.sortOf(square);
                text.append(sort == INN ? 'o' : sort == ROAD ? '-' : '=');
                if (roads.firstOwner(square) != NONE) {
                    text.append('a' + roads.firstOwner(square));
                }
                if (roads.secondOwner(square) != NONE) {
                    text.append('a' + roads.secondOwner(square));
                }
                for (int player = 0; player < players; player++) {
                    if (places.at(player) == square) {
                        text.append('A' + player);
                    }
                }
            }
        }
    }

    /** The states before the latest changes, and a place for one more, so that an error drops none of them. */
    private static final class History {
        private final Board[] states = new Board[HISTORY + 1];
        private int free = 0;
        private int kept = 0;

        History() {
            for (int i = 0; i < states.length; i++) {
                states[i] = new Board();
            }
        }

        int kept() {
            return kept;
        }

        /** Writes the state down, but does not count it yet. */
        void stage(Board board) {
            Board state = free >= 0 && free < states.length ? states[free] : null;
            if (state != null) {
                state.copyFrom(board);
            }
        }

        /** Counts the state that was written down last; the oldest one is dropped if there are too many. */
        void keepStaged() {
            free = free < HISTORY ? free + 1 : 0;
            kept = Math.min(kept + 1, HISTORY);
        }

        /** Puts the board back to the latest state; returns how many are left. */
        int stepBack(Board board) {
            int latest = free > 0 ? free - 1 : HISTORY;
            Board state = latest >= 0 && latest < states.length ? states[latest] : null;
            if (kept == 0 || state == null) {
                return NOT_POSSIBLE;
            }
            board.copyFrom(state);
            free = latest;
            kept--;
            return kept;
        }
    }

    /** A text that has room for so many characters. */
    private static final class Line {
        private final Row signs;
        private final int room;
        private int length = 0;

        Line(int room) {
            this.signs = new Row(room, NO_SUCH);
            this.room = room;
        }

        int length() {
            return length;
        }

        /** The character at a place, NO_SUCH if there is none. */
        int at(int place) {
            return place < length ? signs.at(place) : NO_SUCH;
        }

        void append(int sign) {
            if (length < room) {
                signs.write(length, sign);
                length++;
            }
        }

        void makeEmpty() {
            length = 0;
        }
    }

    /** How characters come as a number, and what a row of orders looks like. */
    private static final class Orders {
        // what may stand next; REST and n more: n digits of a number at most, or the order's end
        private static final int NOTHING = -1, LETTER = 0, NUMBER = 1, DIGIT = 2, REST = 3;
        private static final int MOST_DIGITS = 4;

        /** How many characters the number gives, 0 if it is not as it has to be. */
        static int signsIn(long characters) {
            long rest = characters;
            int signs = 0;
            for (int i = 0; i < PUT_SIGNS && rest != 0; i++) {
                int sign = (int) (rest & 255);
                if (sign < 33 || sign > 126) {
                    return 0;
                }
                signs++;
                rest = rest >>> 8;
            }
            return signs;
        }

        /** The character that so many others follow. */
        static int signOf(long characters, int followers) {
            return (int) (characters >>> 8 * followers & 255);
        }

        static boolean isDigit(int sign) {
            return sign >= '0' && sign <= '9';
        }

        /** The index of the first character that cannot stand there, the length if the text ends too early, or NONE. */
        static int firstFault(Line text) {
            int due = LETTER;
            for (int i = 0; i < text.length(); i++) {
                due = dueBehind(due, text.at(i));
                if (due == NOTHING) {
                    return i;
                }
            }
            return due >= REST ? NONE : text.length();
        }

        private static int dueBehind(int due, int sign) {
            if (due == LETTER) {
                return dueBehindLetter(sign);
            }
            if (due >= REST && sign == ';') {
                return LETTER;
            }
            if (!isDigit(sign) || due == REST) {
                return NOTHING;
            }
            if (due == NUMBER) {
                // without leading zeros nothing can follow a 0
                return sign == '0' ? REST : REST + MOST_DIGITS - 1;
            }
            return due == DIGIT ? REST : due - 1;
        }

        private static int dueBehindLetter(int sign) {
            if (sign == 'p' || sign == 't' || sign == 'x') {
                return NUMBER;
            }
            return sign == 'c' ? DIGIT : NOTHING;
        }
    }
}
