/** Promise 14: how many of k answers to a triangle must be right. */
public final class P14RowTest {
    // From k = 1, the same numbers that ../shared/tests has; the model reckons them again.
    private static final int[] ROW = {2, 3, 3, 4, 4, 5, 5, 6, 6, 7, 7, 8, 8, 9, 9, 9, 10, 10, 11, 11, 12, 12, 12, 13, 13, 14};

    private static final String HOW_MANY = "How many of k answers to a triangle must be right at least";
    private static final String THROWN = "IndexOutOfBoundsException";

    public static void main(String[] args) {
        Due.all(
            P14RowTest::numbers,
            P14RowTest::noSuchNumber,
            P14RowTest::leastNumber,
            P14RowTest::tooSmall,
            P14RowTest::tooLarge,
            P14RowTest::thrownChangesNothing);
    }

    private static void numbers(Due due) {
        due.sentence(HOW_MANY, "each k from 1 to 26, of a new object and of a full one");
        TasterPanels x = new TasterPanels(-3);
        TasterPanels full = Due.panel(8, 26);
        Due.tests(full, 40, 0, 3);
        for (int k = 1; k <= 26; k++) {
            due.same("row(" + k + ")", x.row(k), ROW[k - 1]);
            due.same("row(" + k + ") of a full object", full.row(k), ROW[k - 1]);
            due.same("the model's row(" + k + ")", new Model(0).row(k), ROW[k - 1]);
        }
    }

    private static void noSuchNumber(Due due) {
        due.sentence("k + 1 when there is no such number", "of 1 and 2 answers; of 3 all must be right");
        TasterPanels x = new TasterPanels(0);
        due.same("row(1), as 1/3 is too much", x.row(1), 2);
        due.same("row(2), as 1/9 is too much", x.row(2), 3);
        due.same("row(3), as 1/27 is not", x.row(3), 3);
    }

    /** The chance of so many is small enough and that of one fewer is not, as chance(..) tells them. */
    private static void leastNumber(Due due) {
        due.sentence("so that the chance of as many or more by guessing is at most 1/20", "one fewer would be more than 1/20");
        for (int k = 3; k <= 26; k++) {
            int rights = new TasterPanels(0).row(k);
            due.same("small enough with " + rights + " of " + k, isSmall(k, rights), true);
            due.same("small enough with one fewer of " + k, isSmall(k, rights - 1), false);
        }
    }

    private static boolean isSmall(int answers, int rights) {
        TasterPanels x = Due.panel(1, answers);
        x.test(0, 3);
        for (int taster = 0; taster < answers; taster++) {
            Due.answer(x, 0, 0, taster, taster < rights);
        }
        return 20 * x.chance(0, 0) <= x.chance(0, 1);
    }

    private static void tooSmall(Due due) {
        due.sentence("IndexOutOfBounds when k is not 1 .. 26", "too small");
        for (int k : new int[] {0, -1, -2, -26, Due.LOWEST + 1, Due.LOWEST}) {
            due.same("row(" + k + ")", thrown(new TasterPanels(0), k), THROWN);
            due.same("row(" + k + ") with 26 tasters", thrown(Due.panel(0, 26), k), THROWN);
        }
        due.same("row(1)", thrown(new TasterPanels(0), 1), "2");
    }

    private static void tooLarge(Due due) {
        due.sentence("IndexOutOfBounds when k is not 1 .. 26", "too large");
        for (int k : new int[] {27, 28, 40, 128, 1 << 16, Due.HIGHEST - 1, Due.HIGHEST}) {
            due.same("row(" + k + ")", thrown(new TasterPanels(0), k), THROWN);
            due.same("row(" + k + ") with 26 tasters", thrown(Due.panel(0, 26), k), THROWN);
        }
        due.same("row(26)", thrown(new TasterPanels(0), 26), "14");
    }

    private static void thrownChangesNothing(Due due) {
        due.sentence("IndexOutOfBounds when k is not 1 .. 26", "the object stays as it is");
        TasterPanels x = Due.panel(0, 2);
        x.test(1, 2);
        x.answer(0, 0, 0);
        x.level(1, 3, true);
        int rights = x.right(0);
        for (int k = 0; k < 20; k++) {
            due.same("row(" + -k + ")", thrown(x, -k), THROWN);
            due.same("row(" + (27 + k) + ")", thrown(x, 27 + k), THROWN);
        }
        due.same("row(26)", x.row(26), 14);
        due.same("row(1)", x.row(1), 2);
        due.same("right(0)", x.right(0), rights);
        due.same("threshold(1)", x.threshold(1), 0.5);
        due.same("taster()", x.taster(), 2);
        due.same("test(1, 2)", x.test(1, 2), 1);
    }

    /** What row answers, or the name of what it throws. */
    static String thrown(TasterPanels x, int k) {
        try {
            return Integer.toString(x.row(k));
        } catch (RuntimeException e) {
            return e.getClass().getSimpleName();
        }
    }
}
