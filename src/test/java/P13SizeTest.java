/** Promise 13: how many tasters are needed so that the chance that all guess right is small enough. */
public final class P13SizeTest {
    private static final long HIGHEST = Long.MAX_VALUE;

    public static void main(String[] args) {
        Due due = new Due();
        for (int kind = 0; kind < 3; kind++) {
            powers(due, kind);
            highest(due, kind);
            against(due, kind);
        }
        size(due, 0, 1, 20, 3);
        size(due, 1, 1, 20, 5);
        size(due, 2, 1, 20, 5);
        size(due, 0, 2, 6, 1);
        size(due, 0, 2, 7, 2);
        wrongInputs(due);
        due.end();
    }

    private static void size(Due due, int kind, long above, long below, int want) {
        int got = new TasterPanels(0).size(kind, above, below);
        due.same("size(" + kind + ", " + above + ", " + below + ")", got, want);
    }

    private static void powers(Due due, int kind) {
        long places = kind == 0 ? 3 : 2;
        long all = 1;
        for (int count = 1; count <= 26; count++) {
            all *= places;
            size(due, kind, 1, all, count);
            size(due, kind, 1, all + 1, count == 26 ? -1 : count + 1);
            size(due, kind, 1, all - 1, all - 1 > all / places || count == 1 ? count : count - 1);
            size(due, kind, 1000, 1000 * all, count);
            size(due, kind, 1000, 1000 * all + 1, count == 26 ? -1 : count + 1);
        }
    }

    private static void highest(Due due, int kind) {
        int places = kind == 0 ? 3 : 2;
        size(due, kind, 1, 1, 1);
        size(due, kind, HIGHEST, 1, 1);
        size(due, kind, HIGHEST, HIGHEST, 1);
        size(due, kind, HIGHEST - 1, HIGHEST, 1);
        size(due, kind, HIGHEST / 2, HIGHEST, kind == 0 ? 1 : 2);
        size(due, kind, HIGHEST / 2 + 1, HIGHEST, 1);
        size(due, kind, HIGHEST / places / places + 1, HIGHEST, 2);
        size(due, kind, 1, HIGHEST, -1);
        size(due, kind, 2, HIGHEST, -1);
    }

    private static void against(Due due, int kind) {
        Model m = new Model(0);
        for (long above = 1; above < 60; above++) {
            for (long below = 1; below < 200; below++) {
                size(due, kind, above, below, m.size(kind, above, below));
            }
        }
        for (int shift = 0; shift < 63; shift++) {
            for (int other = 0; other < 63; other++) {
                long above = HIGHEST >> shift;
                long below = HIGHEST >> other;
                size(due, kind, above, below, m.size(kind, above, below));
            }
        }
    }

    private static void wrongInputs(Due due) {
        for (int kind : new int[] {-1, 3, 4, Integer.MAX_VALUE, Integer.MIN_VALUE}) {
            size(due, kind, 1, 20, -1);
            size(due, kind, 0, 0, -1);
        }
        for (int kind = 0; kind < 3; kind++) {
            for (long wrong : new long[] {0, -1, Long.MIN_VALUE}) {
                size(due, kind, wrong, 5, -1);
                size(due, kind, 5, wrong, -1);
                size(due, kind, wrong, wrong, -1);
            }
        }
    }
}
