/** Promise 7: how many answers of a test were right. */
public final class P07RightTest {
    // With seed 7, as another program reckoned the orders: right places of tasters 0 to 5.
    private static final int[] TRIANGLE = {2, 2, 0, 1, 1, 0};
    private static final int[] PAIR = {0, 1, 0, 1, 0, 1};
    private static final int[] DUO = {0, 0, 1, 1, 0, 1};

    public static void main(String[] args) {
        Due due = new Due();
        known(due);
        everyChoice(due);
        wrongInputs(due);
        due.end();
    }

    private static void known(Due due) {
        TasterPanels x = Due.panel(7, 6);
        int[][] places = {TRIANGLE, PAIR, DUO};
        for (int kind = 0; kind < 3; kind++) {
            due.same("test(" + kind + ", ..)", x.test(kind, kind == 0 ? 3 : 2), kind);
            due.same("right(" + kind + ") at first", x.right(kind), 0);
            for (int taster = 0; taster < 6; taster++) {
                due.same("answer", x.answer(kind, taster, places[kind][taster]), true);
                due.same("right(" + kind + ")", x.right(kind), taster + 1);
            }
        }
        due.same("right(0), as the others do not count there", x.right(0), 6);
    }

    /** Each taster has one right place in each test, and no more. */
    private static void everyChoice(Due due) {
        for (int kind = 0; kind < 3; kind++) {
            int places = kind == 0 ? 3 : 2;
            int[] rights = new int[places];
            for (int choice = 0; choice < places; choice++) {
                TasterPanels x = Due.panel(-77, 26);
                x.test(kind, places);
                for (int taster = 0; taster < 26; taster++) {
                    int before = x.right(0);
                    int right = Due.rightPlace(Due.servings(x, 0, taster, false), kind);
                    x.answer(0, taster, choice);
                    due.same("one more right", x.right(0) - before, right == choice ? 1 : 0);
                }
                rights[choice] = x.right(0);
            }
            int sum = 0;
            for (int count : rights) {
                sum += count;
            }
            due.same("right ones over all choices", sum, 26);
        }
    }

    private static void wrongInputs(Due due) {
        TasterPanels x = Due.panel(0, 1);
        x.test(3, 2);
        x.test(1, 2);
        x.rank(0, 0, 0, 1);
        due.same("right of a ranking", x.right(0), -1);
        due.same("right of a pair", x.right(1), 0);
        for (int wrong : new int[] {-1, 2, 39, 40, Integer.MAX_VALUE, Integer.MIN_VALUE}) {
            due.same("right(" + wrong + ")", x.right(wrong), -1);
        }
    }
}
