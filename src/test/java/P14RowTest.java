/** Promise 14: how many of k answers to a triangle must be right. */
public final class P14RowTest {
    // From k = 1, the same numbers that ../shared/tests has; the model reckons them again.
    private static final int[] ROW = {2, 3, 3, 4, 4, 5, 5, 6, 6, 7, 7, 8, 8, 9, 9, 9, 10, 10, 11, 11, 12, 12, 12, 13, 13, 14};

    public static void main(String[] args) {
        Due due = new Due();
        TasterPanels x = new TasterPanels(-3);
        for (int k = 1; k <= 26; k++) {
            due.same("row(" + k + ")", x.row(k), ROW[k - 1]);
            due.same("the model's row(" + k + ")", new Model(0).row(k), ROW[k - 1]);
        }
        for (int k : new int[] {0, -1, 27, 28, 40, Integer.MAX_VALUE, Integer.MIN_VALUE}) {
            due.same("row(" + k + ")", thrown(x, k), "IndexOutOfBoundsException");
        }
        due.same("row(26) behind what was thrown", x.row(26), 14);
        due.end();
    }

    private static String thrown(TasterPanels x, int k) {
        try {
            return Integer.toString(x.row(k));
        } catch (RuntimeException e) {
            return e.getClass().getSimpleName();
        }
    }
}
