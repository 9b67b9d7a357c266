/** Promise 12: a taster is out with five or more answers of which fewer than a third were right. */
public final class P12OutTest {
    private static final String FIVE = "it has answered at least five triangles, pairs and duos";
    private static final String FEWER = "three times its right ones are fewer than these";

    public static void main(String[] args) {
        Due.all(
            P12OutTest::fewerThanFive,
            P12OutTest::everyKindCounts,
            P12OutTest::justAThird,
            P12OutTest::everyCount,
            P12OutTest::backAgain,
            P12OutTest::rankingsDoNotCount,
            P12OutTest::refusedDoNotCount,
            P12OutTest::ofOthers,
            P12OutTest::outMayAnswer,
            P12OutTest::noTaster);
    }

    /** Makes one test more of the kind and lets taster 0 answer it. */
    private static void next(TasterPanels x, int kind, boolean rightly) {
        Due.answer(x, x.test(kind, Due.samples(kind)), kind, 0, rightly);
    }

    private static void fewerThanFive(Due due) {
        due.sentence(FIVE, "four wrong ones are too few, five are enough");
        for (int kind = 0; kind < 3; kind++) {
            TasterPanels x = Due.panel(6, 1);
            for (int answers = 0; answers < 7; answers++) {
                due.same("out(0) with " + answers + " wrong answers", x.out(0), answers >= 5);
                next(x, kind, false);
            }
        }
    }

    private static void everyKindCounts(Due due) {
        due.sentence(FIVE, "all three kinds together");
        for (int last = 0; last < 3; last++) {
            TasterPanels x = Due.panel(6, 1);
            for (int i = 1; i < 5; i++) {
                next(x, (last + i) % 3, false);
                due.same("out(0) with " + i, x.out(0), false);
            }
            next(x, last, false);
            due.same("out(0) with five, the last of kind " + last, x.out(0), true);
        }
    }

    private static void justAThird(Due due) {
        due.sentence(FEWER, "just a third is not fewer, one answer more is");
        for (int rights = 2; rights <= 13; rights++) {
            TasterPanels x = Due.panel(rights, 1);
            for (int i = 0; i < 3 * rights; i++) {
                next(x, i % 3, i < rights);
            }
            due.same("out(0) with " + rights + " right of " + 3 * rights, x.out(0), false);
            next(x, 0, false);
            due.same("out(0) with " + rights + " right of " + (3 * rights + 1), x.out(0), true);
        }
    }

    private static void everyCount(Due due) {
        due.sentence(FEWER, "up to 40 answers, the right ones first or last");
        for (int rights = 0; rights <= 14; rights++) {
            counts(due, rights, true);
            counts(due, rights, false);
        }
    }

    private static void counts(Due due, int rights, boolean first) {
        TasterPanels x = Due.panel(rights, 2);
        int given = 0;
        for (int test = 0; test < 40; test++) {
            int kind = test % 3;
            boolean rightly = first ? test < rights : test >= 40 - rights;
            given += rightly ? 1 : 0;
            next(x, kind, rightly);
            due.same("out(0) with " + given + " right of " + (test + 1), x.out(0), test + 1 >= 5 && 3 * given < test + 1);
            due.same("out(1), which has not answered", x.out(1), false);
        }
    }

    private static void backAgain(Due due) {
        due.sentence("Whether a taster is out", "it may come back, and go out again");
        TasterPanels x = Due.panel(2, 1);
        for (int i = 0; i < 5; i++) {
            next(x, 1, false);
        }
        due.same("out(0) with none right of five", x.out(0), true);
        next(x, 1, true);
        due.same("out(0) with one right of six", x.out(0), true);
        next(x, 2, true);
        due.same("out(0) with two right of seven", x.out(0), true);
        next(x, 0, true);
        due.same("out(0) with three right of eight", x.out(0), false);
        next(x, 0, false);
        due.same("out(0) with three right of nine", x.out(0), false);
        next(x, 0, false);
        due.same("out(0) with three right of ten", x.out(0), true);
    }

    private static void rankingsDoNotCount(Due due) {
        due.sentence(FIVE, "rankings do not count");
        TasterPanels x = Due.panel(0, 1);
        for (int i = 0; i < 4; i++) {
            next(x, 0, false);
        }
        for (int test = 4; test < 10; test++) {
            x.test(3, 2);
            Due.rankAll(x, test, 0, 2, 2);
            x.answer(test, 0, 0);
        }
        due.same("out(0) with four answers and six rankings", x.out(0), false);
        next(x, 1, false);
        due.same("out(0) with five answers", x.out(0), true);
        for (int test = 11; test < 20; test++) {
            x.test(3, 2);
            Due.rankAll(x, test, 0, 2, 1);
        }
        due.same("out(0) behind more rankings", x.out(0), true);
    }

    private static void refusedDoNotCount(Due due) {
        due.sentence(FIVE, "refused answers do not count, neither as answers nor as right ones");
        TasterPanels x = Due.panel(0, 1);
        for (int test = 0; test < 4; test++) {
            next(x, 1, false);
            x.answer(test, 0, 0);
            x.answer(test, 0, 1);
            x.answer(test, 0, 2);
            x.answer(test, 0, -1);
            x.answer(40, 0, 0);
        }
        due.same("out(0) with four answers", x.out(0), false);
        next(x, 1, false);
        x.answer(4, 0, 0);
        x.answer(4, 0, 1);
        due.same("out(0) with five answers, all wrong", x.out(0), true);
    }

    private static void ofOthers(Due due) {
        due.sentence("Whether a taster is out", "by its own answers alone");
        TasterPanels x = Due.panel(9, 3);
        for (int test = 0; test < 6; test++) {
            x.test(0, 3);
            Due.answer(x, test, 0, 0, true);
            Due.answer(x, test, 0, 1, false);
            Due.answer(x, test, 0, 2, test < 2);
        }
        due.same("out(0), all right", x.out(0), false);
        due.same("out(1), none right", x.out(1), true);
        due.same("out(2), a third right", x.out(2), false);
    }

    private static void outMayAnswer(Due due) {
        due.sentence("Whether a taster is out", "one that is out still answers, ranks and tells");
        TasterPanels x = Due.panel(9, 1);
        for (int i = 0; i < 5; i++) {
            next(x, 0, false);
        }
        due.same("out(0)", x.out(0), true);
        x.test(1, 2);
        x.test(3, 2);
        due.same("order(5, 0, 0)", x.order(5, 0, 0) >= 0, true);
        due.same("answer(5, 0, 0)", x.answer(5, 0, 0), true);
        due.same("rank(6, 0, 0, 1)", x.rank(6, 0, 0, 1), true);
        due.same("level(0, 0, true)", x.level(0, 0, true), true);
        due.same("threshold(0)", x.threshold(0), 0.0625);
    }

    private static void noTaster(Due due) {
        due.sentence("False when there is none", "of none, of one, of seven, of 26, the others being out");
        for (int made : new int[] {0, 1, 7, 26}) {
            TasterPanels x = Due.panel(0, made);
            Due.tests(x, 5, 1, 2);
            // The place of A is wrong in a pair.
            for (int i = 0; i < 5 * made; i++) {
                x.answer(i / made, i % made, x.order(i / made, i % made, 0) == 0 ? 0 : 1);
            }
            for (int taster = 0; taster < made; taster++) {
                due.same("out(" + taster + ") of " + made, x.out(taster), true);
            }
            for (int taster : Due.strangers(made, 26)) {
                due.same("out(" + taster + ") of " + made, x.out(taster), false);
            }
        }
    }
}
