/** Promise 7: how many answers of a test were right. */
public final class P07RightTest {
    // With seed 7, as another program reckoned the orders: right places of tasters 0 to 5.
    private static final int[] TRIANGLE = {2, 2, 0, 1, 1, 0};
    private static final int[] PAIR = {0, 1, 0, 1, 0, 1};
    private static final int[] DUO = {0, 0, 1, 1, 0, 1};

    private static final String HOW_MANY = "How many answers of a test were right";

    public static void main(String[] args) {
        Due.all(
            P07RightTest::known,
            P07RightTest::everyChoice,
            P07RightTest::none,
            P07RightTest::all,
            P07RightTest::noTest,
            P07RightTest::ranking);
    }

    private static void known(Due due) {
        due.sentence(HOW_MANY, "each kind, by places that another program reckoned");
        TasterPanels x = Due.panel(7, 6);
        int[][] places = {TRIANGLE, PAIR, DUO};
        for (int kind = 0; kind < 3; kind++) {
            due.same("test(" + kind + ", ..)", x.test(kind, Due.samples(kind)), kind);
            for (int taster = 0; taster < 6; taster++) {
                due.same("answer", x.answer(kind, taster, places[kind][taster]), true);
                due.same("right(" + kind + ")", x.right(kind), taster + 1);
            }
        }
        due.same("right(0), as the others do not count there", x.right(0), 6);
    }

    private static void everyChoice(Due due) {
        due.sentence(HOW_MANY, "each taster has one right place in each test, and no more");
        for (int kind = 0; kind < 3; kind++) {
            int places = Due.samples(kind);
            int sum = 0;
            for (int choice = 0; choice < places; choice++) {
                TasterPanels x = Due.panel(-77, 26);
                x.test(kind, places);
                for (int taster = 0; taster < 26; taster++) {
                    int before = x.right(0);
                    int right = Due.rightPlace(Due.servings(x, 0, taster, false), kind);
                    x.answer(0, taster, choice);
                    due.same("one more right", x.right(0) - before, right == choice ? 1 : 0);
                }
                sum += x.right(0);
            }
            due.same("right ones over all choices", sum, 26);
        }
    }

    private static void none(Due due) {
        due.sentence(HOW_MANY, "0 without answers, and when all are wrong or refused");
        for (int kind = 0; kind < 3; kind++) {
            TasterPanels x = Due.panel(8, 26);
            x.test(kind, Due.samples(kind));
            due.same("right(0) without answers", x.right(0), 0);
            x.answer(0, 0, -1);
            x.answer(0, 26, 0);
            due.same("right(0) with refused answers", x.right(0), 0);
            for (int taster = 0; taster < 26; taster++) {
                Due.answer(x, 0, kind, taster, false);
            }
            due.same("right(0) with 26 wrong answers", x.right(0), 0);
        }
    }

    private static void all(Due due) {
        due.sentence(HOW_MANY, "26 when all tasters are right, in the first and in the last test");
        for (int kind = 0; kind < 3; kind++) {
            for (int test : new int[] {0, 39}) {
                TasterPanels x = Due.panel(8, 26);
                Due.tests(x, 40, kind, Due.samples(kind));
                for (int taster = 0; taster < 26; taster++) {
                    Due.answer(x, test, kind, taster, true);
                }
                due.same("right(" + test + ")", x.right(test), 26);
                due.same("right of the other", x.right(39 - test), 0);
            }
        }
    }

    private static void noTest(Due due) {
        due.sentence("NONE when there is no such triangle, pair or duo", "no such test: of none, of one, of seven, of 40");
        for (int kind = 0; kind < 3; kind++) {
            for (int made : new int[] {0, 1, 7, 40}) {
                TasterPanels x = Due.panel(8, 1);
                Due.tests(x, made, kind, Due.samples(kind));
                for (int test : Due.strangers(made, 40)) {
                    due.same("right(" + test + ") of " + made, x.right(test), -1);
                }
                if (made > 0) {
                    due.same("the last of " + made, x.right(made - 1), 0);
                }
            }
        }
    }

    private static void ranking(Due due) {
        due.sentence("NONE when there is no such triangle, pair or duo", "a ranking is none, ranked or not");
        for (int samples = 2; samples <= 5; samples++) {
            TasterPanels x = Due.panel(8, 1);
            x.test(1, 2);
            x.test(3, samples);
            due.same("right(1)", x.right(1), -1);
            Due.rankAll(x, 1, 0, samples, 1);
            x.answer(1, 0, 0);
            due.same("right(1) when ranked", x.right(1), -1);
            due.same("right(0), the pair beside it", x.right(0), 0);
        }
    }
}
