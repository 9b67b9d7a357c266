/** Promise 13: how many tasters are needed so that the chance that all guess right is small enough. */
public final class P13SizeTest {
    private static final long HIGHEST = Long.MAX_VALUE;
    private static final long[] TOO_SMALL = {0, -1, -2, -20, Integer.MIN_VALUE, Long.MIN_VALUE + 1, Long.MIN_VALUE};

    public static void main(String[] args) {
        Due.all(
            P13SizeTest::some,
            P13SizeTest::atLeastOne,
            P13SizeTest::atMost,
            P13SizeTest::highest,
            P13SizeTest::againstModel,
            P13SizeTest::more,
            P13SizeTest::aboveTooSmall,
            P13SizeTest::belowTooSmall,
            P13SizeTest::anotherKind,
            P13SizeTest::asksOnly);
    }

    private static void size(Due due, int kind, long above, long below, int want) {
        int got = new TasterPanels(0).size(kind, above, below);
        due.same("size(" + kind + ", " + above + ", " + below + ")", got, want);
    }

    private static void some(Due due) {
        due.sentence("the chance that all guess right in a test of kind 0, 1 or 2 is at most above / below", "some reckoned by hand");
        size(due, 0, 1, 20, 3);
        size(due, 1, 1, 20, 5);
        size(due, 2, 1, 20, 5);
        size(due, 0, 2, 6, 1);
        size(due, 0, 2, 7, 2);
        size(due, 1, 3, 10, 2);
        size(due, 2, 3, 13, 3);
    }

    private static void atLeastOne(Due due) {
        due.sentence("How many tasters, 1 .. 26, are needed at least", "1 where even none would do, and where one does just");
        for (int kind = 0; kind < 3; kind++) {
            size(due, kind, 1, 1, 1);
            size(due, kind, 2, 1, 1);
            size(due, kind, 20, 1, 1);
            size(due, kind, HIGHEST, 1, 1);
            size(due, kind, HIGHEST, HIGHEST, 1);
            size(due, kind, 1, Due.samples(kind), 1);
            size(due, kind, 1, Due.samples(kind) + 1, 2);
        }
    }

    private static void atMost(Due due) {
        due.sentence("is at most above / below", "just equal is enough, a little less is not");
        for (int kind = 0; kind < 3; kind++) {
            atMostOf(due, kind);
        }
    }

    private static void atMostOf(Due due, int kind) {
        long places = Due.samples(kind);
        long all = 1;
        for (int count = 1; count <= 26; count++) {
            all *= places;
            size(due, kind, 1, all, count);
            size(due, kind, 1, all + 1, count == 26 ? -1 : count + 1);
            size(due, kind, 1, all - 1, all - 1 > all / places || count == 1 ? count : count - 1);
            size(due, kind, 1000, 1000 * all, count);
            size(due, kind, 1000, 1000 * all + 1, count == 26 ? -1 : count + 1);
            size(due, kind, 1000, 1000 * all - 1, count);
        }
    }

    private static void highest(Due due) {
        due.sentence("is at most above / below", "numbers so high that their products would wrap");
        for (int kind = 0; kind < 3; kind++) {
            highestOf(due, kind);
        }
    }

    private static void highestOf(Due due, int kind) {
        int places = Due.samples(kind);
        size(due, kind, HIGHEST - 1, HIGHEST, 1);
        size(due, kind, HIGHEST / 2, HIGHEST, kind == 0 ? 1 : 2);
        size(due, kind, HIGHEST / 2 + 1, HIGHEST, 1);
        size(due, kind, HIGHEST / places / places + 1, HIGHEST, 2);
        long part = HIGHEST;
        for (int count = 1; count <= 26; count++) {
            part /= places;
            size(due, kind, part + 1, HIGHEST, count);
            // The highest long is no multiple of 2 or 3: what was cut off is just too much.
            size(due, kind, part, HIGHEST, count == 26 ? -1 : count + 1);
        }
        size(due, kind, HIGHEST, HIGHEST - 1, 1);
        size(due, kind, 1, HIGHEST, -1);
        size(due, kind, 2, HIGHEST, -1);
    }

    private static long power(long base, int times) {
        long product = 1;
        for (int i = 0; i < times; i++) {
            product *= base;
        }
        return product;
    }

    private static void againstModel(Due due) {
        due.sentence("How many tasters, 1 .. 26, are needed at least", "small and high numbers of many kinds");
        for (int kind = 0; kind < 3; kind++) {
            againstModelOf(due, kind);
        }
    }

    private static void againstModelOf(Due due, int kind) {
        Model m = new Model(0);
        for (long above = 1; above < 60; above++) {
            for (long below = 1; below < 200; below++) {
                size(due, kind, above, below, m.size(kind, above, below));
            }
        }
        for (int shift = 0; shift < 63; shift++) {
            for (int other = 0; other < 63; other++) {
                long above = HIGHEST >> shift;
                long below = HIGHEST >> other;
                size(due, kind, above, below, m.size(kind, above, below));
            }
        }
    }

    private static void more(Due due) {
        due.sentence("NONE when more would be", "26 are just enough, 27 would be needed");
        for (int kind = 0; kind < 3; kind++) {
            moreOf(due, kind);
        }
    }

    private static void moreOf(Due due, int kind) {
        long all = power(Due.samples(kind), 26);
        size(due, kind, 1, all, 26);
        size(due, kind, 1, all + 1, -1);
        size(due, kind, 1, all * Due.samples(kind), -1);
        size(due, kind, 3, 3 * all, 26);
        size(due, kind, 3, 3 * all + 1, -1);
        size(due, kind, 1, HIGHEST, -1);
    }

    private static void aboveTooSmall(Due due) {
        due.sentence("above or below is less than 1", "above");
        for (int kind = 0; kind < 3; kind++) {
            for (long above : TOO_SMALL) {
                for (long below : new long[] {1, 2, 5, HIGHEST}) {
                    size(due, kind, above, below, -1);
                }
            }
            size(due, kind, 1, 1, 1);
        }
    }

    private static void belowTooSmall(Due due) {
        due.sentence("above or below is less than 1", "below, and both");
        for (int kind = 0; kind < 3; kind++) {
            for (long below : TOO_SMALL) {
                for (long above : new long[] {1, 2, 5, HIGHEST, below}) {
                    size(due, kind, above, below, -1);
                }
            }
            size(due, kind, -1, -20, -1);
            size(due, kind, 1, 1, 1);
        }
    }

    private static void anotherKind(Due due) {
        due.sentence("or for another kind", "a ranking, below 0 and above it");
        for (int kind : new int[] {Due.LOWEST, -3, -2, -1, 3, 4, 5, 256, 1 << 16, Due.HIGHEST}) {
            size(due, kind, 1, 1, -1);
            size(due, kind, 1, 20, -1);
            size(due, kind, 0, 0, -1);
        }
    }

    private static void asksOnly(Due due) {
        due.sentence("How many tasters, 1 .. 26, are needed at least", "whatever tasters and tests there are, and it adds none");
        TasterPanels x = Due.panel(0, 26);
        Due.tests(x, 40, 3, 5);
        due.same("size(0, 1, 20) of a full object", x.size(0, 1, 20), 3);
        TasterPanels y = new TasterPanels(0);
        due.same("size(0, 1, 20) of a new object", y.size(0, 1, 20), 3);
        due.same("taster() behind it", y.taster(), 0);
        due.same("test(0, 3) behind it", y.test(0, 3), 0);
    }
}
