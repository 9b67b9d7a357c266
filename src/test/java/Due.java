/** Counts the calls whose answer is not the one that is due, and prints each. */
final class Due {
    private int calls;
    private int wrong;

    void same(String call, long got, long want) {
        note(call, got == want, Long.toString(got), Long.toString(want));
    }

    void same(String call, boolean got, boolean want) {
        note(call, got == want, Boolean.toString(got), Boolean.toString(want));
    }

    void same(String call, double got, double want) {
        note(call, got == want, Double.toString(got), Double.toString(want));
    }

    void same(String call, String got, String want) {
        note(call, got.equals(want), got, want);
    }

    /** Both parts of a chance. */
    void chance(TasterPanels x, int test, long above, long below) {
        same("chance(" + test + ", 0)", x.chance(test, 0), above);
        same("chance(" + test + ", 1)", x.chance(test, 1), below);
    }

    /** Both parts of a chance of a ranking. */
    void permuted(TasterPanels x, int test, long above, long below) {
        same("permuted(" + test + ", 0)", x.permuted(test, 0), above);
        same("permuted(" + test + ", 1)", x.permuted(test, 1), below);
    }

    /** A new object with so many tasters. */
    static TasterPanels panel(long seed, int tasters) {
        TasterPanels x = new TasterPanels(seed);
        for (int i = 0; i < tasters; i++) {
            x.taster();
        }
        return x;
    }

    /** What a taster is served, up to the first NONE: "ABA", or "201" of a ranking. */
    static String servings(TasterPanels x, int test, int taster, boolean ranking) {
        StringBuilder row = new StringBuilder();
        for (int k = 0; k < 10; k++) {
            int served = x.order(test, taster, k);
            if (served == TasterPanels.NONE) {
                break;
            }
            row.append(ranking ? (char) ('0' + served) : (char) ('A' + served));
        }
        return row.toString();
    }

    /** The right place, told from what is served. */
    static int rightPlace(String served, int kind) {
        if (kind == 1) {
            return served.indexOf('B');
        }
        if (kind == 2) {
            return served.substring(1).indexOf(served.charAt(0));
        }
        for (int place = 0; place < 3; place++) {
            if (served.indexOf(served.charAt(place)) == served.lastIndexOf(served.charAt(place))) {
                return place;
            }
        }
        throw new IllegalStateException(served + " has no odd one");
    }

    /** Lets a taster answer, rightly or wrongly as told; whether the answer was taken. */
    static boolean answer(TasterPanels x, int test, int kind, int taster, boolean rightly) {
        int right = rightPlace(servings(x, test, taster, false), kind);
        int places = kind == 0 ? 3 : 2;
        return x.answer(test, taster, rightly ? right : (right + 1) % places);
    }

    private void note(String call, boolean good, String got, String want) {
        calls++;
        if (!good) {
            wrong++;
            System.out.println(call + " answered " + got + ", due is " + want);
        }
    }

    void end() {
        System.out.println(calls - wrong + " of " + calls + " answers are as due");
        if (wrong != 0 || calls == 0) {
            System.exit(1);
        }
    }
}
