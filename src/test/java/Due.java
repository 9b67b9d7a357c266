import java.util.function.Consumer;

/** Counts the calls whose answer is not the one that is due, sentence by sentence of the document, and prints each. */
final class Due {
    static final int LOWEST = Integer.MIN_VALUE;
    static final int HIGHEST = Integer.MAX_VALUE;

    // Far above what any file of tests needs: a call that does not end fails as well.
    private static final long MOST_MILLIS = 300_000;

    private volatile String sentence;
    private int calls;
    private int wrong;
    private int allCalls;
    private int held;
    private int sentences;

    Due() {
        Thread watch = new Thread(this::endUnended);
        watch.setDaemon(true);
        watch.start();
    }

    private void endUnended() {
        try {
            Thread.sleep(MOST_MILLIS);
        } catch (InterruptedException e) {
            return;
        }
        System.out.println("  BROKEN " + sentence + " has not ended");
        Runtime.getRuntime().halt(1);
    }

    /** Runs the tests of a file: one that dies breaks its sentence, and the others go on. */
    @SafeVarargs
    static void all(Consumer<Due>... tests) {
        Due due = new Due();
        for (Consumer<Due> test : tests) {
            try {
                test.accept(due);
            } catch (RuntimeException e) {
                e.printStackTrace(System.out);
                due.note("a call", false, e.toString(), "an answer");
            }
            due.close();
        }
        due.end();
    }

    /** Begins the test of one sentence: its words in the document, and which case of it. */
    void sentence(String words, String which) {
        close();
        sentence = '"' + words + "\": " + which;
    }

    void same(String call, long got, long want) {
        note(call, got == want, Long.toString(got), Long.toString(want));
    }

    void same(String call, boolean got, boolean want) {
        note(call, got == want, Boolean.toString(got), Boolean.toString(want));
    }

    void same(String call, double got, double want) {
        note(call, got == want, Double.toString(got), Double.toString(want));
    }

    void same(String call, String got, String want) {
        note(call, got.equals(want), got, want);
    }

    /** Both parts of a chance. */
    void chance(TasterPanels x, int test, long above, long below) {
        same("chance(" + test + ", 0)", x.chance(test, 0), above);
        same("chance(" + test + ", 1)", x.chance(test, 1), below);
    }

    /** Both parts of a chance of a ranking. */
    void permuted(TasterPanels x, int test, long above, long below) {
        same("permuted(" + test + ", 0)", x.permuted(test, 0), above);
        same("permuted(" + test + ", 1)", x.permuted(test, 1), below);
    }

    /** A new object with so many tasters. */
    static TasterPanels panel(long seed, int tasters) {
        TasterPanels x = new TasterPanels(seed);
        for (int i = 0; i < tasters; i++) {
            x.taster();
        }
        return x;
    }

    /** Makes so many tests of a kind more. */
    static void tests(TasterPanels x, int count, int kind, int samples) {
        for (int i = 0; i < count; i++) {
            x.test(kind, samples);
        }
    }

    /** How many samples a test of this kind has, a ranking here the fewest. */
    static int samples(int kind) {
        return kind == 0 ? 3 : 2;
    }

    /** Numbers that nothing bears when so many have been made of at most so many. */
    static int[] strangers(int made, int most) {
        int last = made < most ? most - 1 : most;
        return new int[] {LOWEST, LOWEST + 1, -most, -2, -1, made, last, most, most + 1, 128, 1 << 16, HIGHEST - 1, HIGHEST};
    }

    /** What a taster is served, up to the first NONE: "ABA", or "201" of a ranking. */
    static String servings(TasterPanels x, int test, int taster, boolean ranking) {
        StringBuilder row = new StringBuilder();
        for (int k = 0; k < 10; k++) {
            int served = x.order(test, taster, k);
            if (served == TasterPanels.NONE) {
                break;
            }
            row.append(ranking ? (char) ('0' + served) : (char) ('A' + served));
        }
        return row.toString();
    }

    /** The right place, told from what is served. */
    static int rightPlace(String served, int kind) {
        if (kind == 1) {
            return served.indexOf('B');
        }
        if (kind == 2) {
            return served.substring(1).indexOf(served.charAt(0));
        }
        for (int place = 0; place < 3; place++) {
            if (served.indexOf(served.charAt(place)) == served.lastIndexOf(served.charAt(place))) {
                return place;
            }
        }
        throw new IllegalStateException(served + " has no odd one");
    }

    /** Lets a taster answer, rightly or wrongly as told; whether the answer was taken. */
    static boolean answer(TasterPanels x, int test, int kind, int taster, boolean rightly) {
        int right = rightPlace(servings(x, test, taster, false), kind);
        return x.answer(test, taster, rightly ? right : (right + 1) % samples(kind));
    }

    /** Lets a taster rank all samples, sample 0 with this rank. */
    static void rankAll(TasterPanels x, int test, int taster, int samples, int first) {
        for (int sample = 0; sample < samples; sample++) {
            x.rank(test, taster, sample, (first - 1 + sample) % samples + 1);
        }
    }

    private void note(String call, boolean good, String got, String want) {
        if (sentence == null) {
            throw new IllegalStateException(call + " is looked at outside of any sentence");
        }
        calls++;
        if (!good) {
            wrong++;
            System.out.println(call + " answered " + got + ", due is " + want);
        }
    }

    private void close() {
        if (sentence == null) {
            return;
        }
        // A sentence under which nothing was asked has no test.
        boolean holds = wrong == 0 && calls != 0;
        System.out.println((holds ? "  held   " : "  BROKEN ") + sentence);
        sentences++;
        held += holds ? 1 : 0;
        allCalls += calls;
        calls = 0;
        wrong = 0;
        sentence = null;
    }

    void end() {
        close();
        System.out.println(held + " of " + sentences + " held, " + allCalls + " answers looked at");
        if (held != sentences || sentences == 0) {
            System.exit(1);
        }
    }
}
