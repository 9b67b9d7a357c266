/** Promise 3: tests are numbered from 0, at most 40, and refused for a wrong kind or number of samples. */
public final class P03TestTest {
    private static final int[] ODD = {-1, 4, 5, Integer.MAX_VALUE, Integer.MIN_VALUE};

    public static void main(String[] args) {
        Due due = new Due();
        everyKind(due);
        upToFull(due);
        due.end();
    }

    private static boolean good(int kind, int samples) {
        return kind == 0 && samples == 3 || (kind == 1 || kind == 2) && samples == 2
            || kind == 3 && (samples == 2 || samples == 3 || samples == 4 || samples == 5);
    }

    private static void everyKind(Due due) {
        TasterPanels x = new TasterPanels(9);
        int made = 0;
        for (int kind = -2; kind < 6; kind++) {
            for (int samples = -3; samples < 9; samples++) {
                int want = good(kind, samples) ? made++ : TasterPanels.NONE;
                due.same("test(" + kind + ", " + samples + ")", x.test(kind, samples), want);
            }
        }
        for (int odd : ODD) {
            due.same("test(" + odd + ", 2)", x.test(odd, 2), TasterPanels.NONE);
            due.same("test(0, " + odd + ")", x.test(0, odd), TasterPanels.NONE);
            due.same("test(1, " + odd + ")", x.test(1, odd), TasterPanels.NONE);
        }
        due.same("tests made", made, 7);
        due.same("right of the last pair or duo", x.right(2), 0);
        due.same("right of a ranking", x.right(3), -1);
    }

    private static void upToFull(Due due) {
        TasterPanels x = Due.panel(0, 1);
        for (int test = 0; test < 40; test++) {
            due.same("right(" + test + ") before", x.right(test), -1);
            due.same("test(2, 2)", x.test(2, 2), test);
            due.same("right(" + test + ") behind", x.right(test), 0);
            due.same("test(2, 3), which takes no number", x.test(2, 3), TasterPanels.NONE);
        }
        due.same("test(0, 3) when full", x.test(0, 3), TasterPanels.FULL);
        due.same("test(1, 2) when full", x.test(1, 2), TasterPanels.FULL);
        due.same("test(3, 5) when full", x.test(3, 5), TasterPanels.FULL);
        due.same("test(4, 2), refused though full", x.test(4, 2), TasterPanels.NONE);
        due.same("test(3, 6), refused though full", x.test(3, 6), TasterPanels.NONE);
        due.same("answer(39, 0, 0)", x.answer(39, 0, 0), true);
        due.same("answer(40, 0, 0)", x.answer(40, 0, 0), false);
    }
}
