/** Compares answers with what is due, and prints the calls whose answers are not. */
final class Check {
    private static int wrong = 0;

    private Check() {
    }

    static void due(String call, long got, long want) {
        if (got != want) {
            wrong++;
            System.out.println(call + " answered " + got + ", due is " + want);
        }
    }

    static void due(String call, String got, String want) {
        if (!got.equals(want)) {
            wrong++;
            System.out.println(call + " answered " + got + ", due is " + want);
        }
    }

    static void that(String what, boolean holds) {
        if (!holds) {
            wrong++;
            System.out.println("does not hold: " + what);
        }
    }

    /** Tests one sentence of the document; if it does not hold, that is told with the promise, or section, that says it. */
    static void sentence(String promise, String sentence, Runnable test) {
        int before = wrong;
        test.run();
        if (wrong != before) {
            System.out.println("so it does not hold that (" + promise + ") " + sentence);
        }
    }

    /** Ends the test, with exit code 1 if an answer was wrong. */
    static void end() {
        if (wrong != 0) {
            System.out.println(wrong + " answers are not as due");
            System.exit(1);
        }
    }
}
