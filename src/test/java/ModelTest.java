import java.util.Random;

/** All promises together: long runs of calls, each of whose answers has to be the one of the model. */
public final class ModelTest {
    private static final int RUNS = 1200;
    // the document promises nothing about later calls
    private static final int MOST_CALLS = 512;
    // the calls that a comparison of everything makes
    private static final int LAST_CALLS = 17 + 46 + 100 + 36 + 16 + 32;
    private static final String[] GOOD_ORDERS = {"p0", "p15", "p50", "t1", "t3", "t9", "t20", "x7", "x1234", "c0",
        "c1", "c2", "c3"};
    private static final String[] ORDERS = {"p", "t", "x", "c", "p0", "t9", "x77", "c0", ";", ";", "0", "1", "9", "99",
        "a", "t0", "t100", "10000", "C"};

    private final Random random;
    private final DiceRoads x = new DiceRoads();
    private final Model m = new Model();
    private final String name;
    private int made = 0;

    private ModelTest(int run) {
        random = new Random(run);
        name = "run " + run + ": ";
    }

    public static void main(String[] args) {
        for (int run = 0; run < RUNS; run++) {
            ModelTest test = new ModelTest(run);
            // every other run is one of debts, which has its rings early
            test.settle(run % 2 == 1);
            boolean isLong = run % 4 == 0;
            int calls = isLong ? MOST_CALLS : MOST_CALLS - LAST_CALLS - 1;
            while (test.made < calls) {
                test.call(test.random.nextInt(100));
            }
            if (!isLong) {
                test.compareAll();
            }
            Check.that("no more calls than promised", test.made <= MOST_CALLS);
        }
        Check.end();
    }

    private void due(String call, int got, int want) {
        made++;
        Check.due(name + call, got, want);
    }

    /** Settings that differ from run to run; with many debts, they are such that nothing but tolls brings coins. */
    private void settle(boolean manyDebts) {
        int[] tolls = {1, 6, 25, 60, 99};
        int[] wages = {0, 3, 20, 60, 99};
        change(DiceRoads.TOLL, manyDebts ? 3 + random.nextInt(30) : tolls[random.nextInt(5)]);
        change(DiceRoads.WAGE, manyDebts ? 0 : wages[random.nextInt(5)]);
        change(DiceRoads.PRICE, manyDebts ? 5 : 1 + random.nextInt(20));
        change(DiceRoads.CLAIM, manyDebts ? 1 : 1 + random.nextInt(5));
        change(DiceRoads.DUE, manyDebts ? 15 : 1 + random.nextInt(10));
        int players = manyDebts ? 4 : random.nextInt(5);
        for (int i = 0; i < players; i++) {
            int purse = manyDebts ? 15 + random.nextInt(10) : random.nextInt(80);
            due("player(" + purse + ")", x.player(purse), m.player(purse));
        }
        int seed = random.nextInt(10000);
        due("seed(" + seed + ")", x.seed(seed), m.seed(seed));
    }

    private void change(int setting, int value) {
        due("set(" + setting + ", " + value + ")", x.set(setting, value), m.set(setting, value));
    }

    /** A number near a range's ends, or inside. */
    private int near(int least, int most) {
        int sort = random.nextInt(40);
        if (sort == 0) {
            return least - 1;
        }
        if (sort == 1) {
            return most + 1;
        }
        if (sort == 2) {
            return random.nextInt();
        }
        return sort < 5 ? least : sort < 7 ? most : least + random.nextInt(most - least + 1);
    }

    private void call(int sort) {
        if (sort < 30) {
            changes(sort);
        } else if (sort < 60) {
            facts(sort);
        } else if (sort < 72) {
            whatIfs(sort);
        } else if (sort < 90) {
            texts(sort);
        } else {
            states(sort);
        }
    }

    private void changes(int sort) {
        if (sort < 1) {
            change(near(0, 4), near(0, 99));
        } else if (sort < 3) {
            int purse = near(0, 100);
            due("player(" + purse + ")", x.player(purse), m.player(purse));
        } else if (sort < 5) {
            int seed = near(0, 9999);
            due("seed(" + seed + ")", x.seed(seed), m.seed(seed));
        } else if (sort < 25) {
            int turns = sort < 8 ? near(1, 99) : near(1, 9);
            due("go(" + turns + ")", x.go(turns), m.go(turns));
        } else {
            int player = near(0, 3);
            due("clear(" + player + ")", x.clear(player), m.clear(player));
        }
    }

    private void facts(int sort) {
        int a = near(0, 3);
        int b = near(0, 3);
        if (sort < 38) {
            int what = near(0, 8);
            due("of(" + a + ", " + what + ")", x.of(a, what), m.of(a, what));
        } else if (sort < 44) {
            int square = near(0, 19);
            int what = near(0, 4);
            due("ofSquare(" + square + ", " + what + ")", x.ofSquare(square, what),
                    m.ofSquare(square, what));
        } else if (sort < 50) {
            int what = near(0, 1);
            due("owes(" + a + ", " + b + ", " + what + ")", x.owes(a, b, what), m.owes(a, b, what));
        } else if (sort < 55) {
            int what = near(0, 16);
            due("count(" + what + ")", x.count(what), m.count(what));
        } else {
            int place = near(0, 44);
            due("sign(" + place + ")", x.sign(place), m.sign(place));
        }
    }

    private void whatIfs(int sort) {
        int player = near(0, 3);
        int turns = near(1, 99);
        if (sort < 65) {
            int other = near(0, 3);
            due("chain(" + player + ", " + other + ")", x.chain(player, other), m.chain(player, other));
        } else if (sort < 68) {
            due("emptyIn(" + player + ")", x.emptyIn(player), m.emptyIn(player));
        } else if (sort < 71) {
            due("purseIn(" + player + ", " + turns + ")", x.purseIn(player, turns),
                    m.purseIn(player, turns));
        } else {
            int some = turns > 60 ? near(1, 60) : turns;
            due("bestSeed(" + player + ", " + some + ")", x.bestSeed(player, some),
                    m.bestSeed(player, some));
        }
    }

    private void texts(int sort) {
        if (sort < 82) {
            long characters = characters();
            due("put(" + characters + ")", x.put(characters), m.put(characters));
        } else if (sort < 84 || sort < 87 && m.fault() >= 0) {
            due("wipe()", x.wipe(), m.wipe());
        } else {
            due("carryOut()", x.carryOut(), m.carryOut());
        }
        if (made < MOST_CALLS) {
            due("then fault()", x.fault(), m.fault());
        }
    }

    private long characters() {
        int sort = random.nextInt(60);
        if (sort == 0) {
            return random.nextLong();
        }
        if (sort == 1) {
            return random.nextLong() >>> 8 * random.nextInt(8);
        }
        StringBuilder text = new StringBuilder();
        for (int i = 0; i < 3; i++) {
            String piece = ORDERS[random.nextInt(ORDERS.length)];
            if (sort > 4) {
                // as the pad has to go on
                boolean first = m.count(15) == 0 && text.length() == 0;
                piece = (first ? "" : ";") + GOOD_ORDERS[random.nextInt(GOOD_ORDERS.length)];
            }
            if (text.length() + piece.length() <= 8) {
                text.append(piece);
            }
        }
        return Table.number(text.toString());
    }

    private void states(int sort) {
        int slot = near(0, 1);
        if (sort < 94) {
            due("undo()", x.undo(), m.undo());
        } else if (sort < 97) {
            due("save(" + slot + ")", x.save(slot), m.save(slot));
        } else {
            due("restore(" + slot + ")", x.restore(slot), m.restore(slot));
        }
    }

    private void compareAll() {
        for (int what = 0; what <= 16; what++) {
            due("in the end count(" + what + ")", x.count(what), m.count(what));
        }
        for (int place = 0; place < 46; place++) {
            due("in the end sign(" + place + ")", x.sign(place), m.sign(place));
        }
        for (int square = 0; square < 20; square++) {
            for (int what = 0; what <= 4; what++) {
                due("in the end ofSquare(" + square + ", " + what + ")", x.ofSquare(square, what),
                        m.ofSquare(square, what));
            }
        }
        for (int player = 0; player < 4; player++) {
            for (int what = 0; what <= 8; what++) {
                due("in the end of(" + player + ", " + what + ")", x.of(player, what), m.of(player, what));
            }
            for (int other = 0; other < 4; other++) {
                due("in the end chain(" + player + ", " + other + ")", x.chain(player, other),
                        m.chain(player, other));
                for (int what = 0; what <= 1; what++) {
                    due("in the end owes(" + player + ", " + other + ", " + what + ")",
                            x.owes(player, other, what), m.owes(player, other, what));
                }
            }
        }
    }
}
