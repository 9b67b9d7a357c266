/** Promise 12: a taster is out with five or more answers of which fewer than a third were right. */
public final class P12OutTest {
    public static void main(String[] args) {
        Due due = new Due();
        for (int rights = 0; rights <= 14; rights++) {
            counts(due, rights, true);
            counts(due, rights, false);
        }
        rankingsDoNotCount(due);
        wrongInputs(due);
        due.end();
    }

    /** Up to 40 answers to all three kinds, the right ones first or last. */
    private static void counts(Due due, int rights, boolean first) {
        TasterPanels x = Due.panel(rights, 2);
        int given = 0;
        for (int test = 0; test < 40; test++) {
            int kind = test % 3;
            x.test(kind, kind == 0 ? 3 : 2);
            boolean rightly = first ? test < rights : test >= 40 - rights;
            given += rightly ? 1 : 0;
            Due.answer(x, test, kind, 1, rightly);
            due.same("out(1) with " + given + " right of " + (test + 1), x.out(1), test + 1 >= 5 && 3 * given < test + 1);
            due.same("out(0), which has not answered", x.out(0), false);
        }
    }

    private static void rankingsDoNotCount(Due due) {
        TasterPanels x = Due.panel(0, 1);
        for (int test = 0; test < 4; test++) {
            x.test(0, 3);
            Due.answer(x, test, 0, 0, false);
        }
        for (int test = 4; test < 10; test++) {
            x.test(3, 2);
            x.rank(test, 0, 0, 1);
            x.rank(test, 0, 1, 2);
            x.answer(test, 0, 0);
        }
        due.same("out(0) with four answers and six rankings", x.out(0), false);
        x.test(1, 2);
        Due.answer(x, 10, 1, 0, false);
        due.same("out(0) with five answers", x.out(0), true);
        x.answer(10, 0, 0);
        x.answer(10, 0, 1);
        due.same("out(0), as no answer counts twice", x.out(0), true);
        x.test(1, 2);
        due.same("one that is out still answers", Due.answer(x, 11, 1, 0, true), true);
        due.same("out(0) with one right of six", x.out(0), true);
        x.test(2, 2);
        Due.answer(x, 12, 2, 0, true);
        due.same("out(0) with two right of seven", x.out(0), true);
        x.test(2, 2);
        Due.answer(x, 13, 2, 0, true);
        due.same("out(0) with three right of eight", x.out(0), false);
    }

    private static void wrongInputs(Due due) {
        TasterPanels x = Due.panel(0, 3);
        for (int wrong : new int[] {-1, 3, 25, 26, Integer.MAX_VALUE, Integer.MIN_VALUE}) {
            due.same("out(" + wrong + ")", x.out(wrong), false);
        }
    }
}
