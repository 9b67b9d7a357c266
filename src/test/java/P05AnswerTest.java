/** Promise 5: a taster answers a triangle, pair or duo once, with a place. */
public final class P05AnswerTest {
    private static final String REFUSED = "False, refused, when there is no such test or taster";

    public static void main(String[] args) {
        Due.all(
            P05AnswerTest::taken,
            P05AnswerTest::firstAndLast,
            P05AnswerTest::noTest,
            P05AnswerTest::ranking,
            P05AnswerTest::noTaster,
            due -> noPlace(due, 0, "a triangle has the places 0, 1, 2"),
            due -> noPlace(due, 1, "a pair has the places 0, 1"),
            due -> noPlace(due, 2, "a duo has the places 0, 1, the reference none"),
            P05AnswerTest::answeredRightly,
            P05AnswerTest::answeredWrongly,
            P05AnswerTest::othersMayAnswer,
            P05AnswerTest::refusedIsNoAnswer,
            P05AnswerTest::refusedCountsNowhere);
    }

    private static void taken(Due due) {
        due.sentence("A taster answers a triangle, pair or duo: true", "each kind, each place");
        for (int kind = 0; kind < 3; kind++) {
            TasterPanels x = Due.panel(4, 3);
            x.test(kind, Due.samples(kind));
            for (int choice = 0; choice < Due.samples(kind); choice++) {
                due.same("answer(0, " + choice + ", " + choice + ")", x.answer(0, choice, choice), true);
            }
        }
    }

    private static void firstAndLast(Due due) {
        due.sentence("A taster answers a triangle, pair or duo: true", "the first and the last taster, the first and the last test");
        TasterPanels x = Due.panel(4, 26);
        Due.tests(x, 40, 0, 3);
        due.same("answer(0, 0, 2)", x.answer(0, 0, 2), true);
        due.same("answer(0, 25, 2)", x.answer(0, 25, 2), true);
        due.same("answer(39, 0, 2)", x.answer(39, 0, 2), true);
        due.same("answer(39, 25, 2)", x.answer(39, 25, 2), true);
    }

    private static void noTest(Due due) {
        due.sentence(REFUSED, "no such test: of none, of one, of seven, of 40");
        for (int made : new int[] {0, 1, 7, 40}) {
            TasterPanels x = Due.panel(4, 26);
            Due.tests(x, made, 1, 2);
            for (int test : Due.strangers(made, 40)) {
                due.same("answer(" + test + ", 0, 0) of " + made, x.answer(test, 0, 0), false);
                due.same("answer(" + test + ", 25, 1) of " + made, x.answer(test, 25, 1), false);
            }
            for (int test = 0; test < made; test++) {
                due.same("right(" + test + ") of " + made, x.right(test), 0);
                due.same("chance(" + test + ", 0) of " + made, x.chance(test, 0), -1);
            }
        }
    }

    private static void ranking(Due due) {
        due.sentence(REFUSED, "a ranking is no test to answer");
        for (int samples = 2; samples <= 5; samples++) {
            TasterPanels x = Due.panel(4, 2);
            x.test(3, samples);
            for (int choice = 0; choice < samples; choice++) {
                due.same("answer(0, 0, " + choice + ") of " + samples, x.answer(0, 0, choice), false);
            }
            due.same("rank(0, 0, 0, 1)", x.rank(0, 0, 0, 1), true);
            due.same("answer(0, 0, 0) behind it", x.answer(0, 0, 0), false);
        }
    }

    private static void noTaster(Due due) {
        due.sentence(REFUSED, "no such taster: of none, of one, of seven, of 26");
        for (int made : new int[] {0, 1, 7, 26}) {
            TasterPanels x = Due.panel(4, made);
            for (int kind = 0; kind < 3; kind++) {
                x.test(kind, Due.samples(kind));
                for (int taster : Due.strangers(made, 26)) {
                    due.same("answer(" + kind + ", " + taster + ", 0) of " + made, x.answer(kind, taster, 0), false);
                }
                due.same("chance(" + kind + ", 0) of " + made, x.chance(kind, 0), -1);
            }
        }
    }

    private static void noPlace(Due due, int kind, String which) {
        due.sentence("choice is no place", which);
        int places = Due.samples(kind);
        TasterPanels x = Due.panel(4, 26);
        x.test(kind, places);
        for (int choice : Due.strangers(places, places)) {
            for (int taster : new int[] {0, 1, 2, 3, 4, 5, 25}) {
                due.same("answer(0, " + taster + ", " + choice + ")", x.answer(0, taster, choice), false);
            }
        }
        due.same("chance(0, 0)", x.chance(0, 0), -1);
        due.same("the last place", x.answer(0, 0, places - 1), true);
        due.same("the first place", x.answer(0, 1, 0), true);
    }

    private static void again(Due due, boolean rightly) {
        for (int kind = 0; kind < 3; kind++) {
            TasterPanels x = Due.panel(4, 26);
            x.test(kind, Due.samples(kind));
            for (int taster : new int[] {0, 25}) {
                due.same("the first answer", Due.answer(x, 0, kind, taster, rightly), true);
                for (int choice = 0; choice < Due.samples(kind); choice++) {
                    due.same("answer(0, " + taster + ", " + choice + ") again", x.answer(0, taster, choice), false);
                }
            }
            due.same("right(0)", x.right(0), rightly ? 2 : 0);
            due.chance(x, 0, 1, rightly ? kind == 0 ? 9 : 4 : 1);
        }
    }

    private static void answeredRightly(Due due) {
        due.sentence("or it has answered this test", "rightly; no second answer is taken, whatever the place");
        again(due, true);
    }

    private static void answeredWrongly(Due due) {
        due.sentence("or it has answered this test", "wrongly; no second answer is taken, whatever the place");
        again(due, false);
    }

    private static void othersMayAnswer(Due due) {
        due.sentence("or it has answered this test", "this test alone, and this taster alone");
        TasterPanels x = Due.panel(4, 3);
        Due.tests(x, 3, 1, 2);
        due.same("answer(1, 1, 0)", x.answer(1, 1, 0), true);
        due.same("another taster below", x.answer(1, 0, 0), true);
        due.same("another taster above", x.answer(1, 2, 0), true);
        due.same("another test below", x.answer(0, 1, 0), true);
        due.same("another test above", x.answer(2, 1, 0), true);
        due.same("answer(1, 1, 1)", x.answer(1, 1, 1), false);
    }

    private static void refusedIsNoAnswer(Due due) {
        due.sentence("False, refused", "a taster whose choice was no place may still answer");
        for (int kind = 0; kind < 3; kind++) {
            TasterPanels x = Due.panel(4, 2);
            x.test(kind, Due.samples(kind));
            due.same("answer(0, 0, -1)", x.answer(0, 0, -1), false);
            due.same("answer(0, 0, 3)", x.answer(0, 0, 3), false);
            due.same("answer(0, 0, 0)", x.answer(0, 0, 0), true);
        }
    }

    private static void refusedCountsNowhere(Due due) {
        due.sentence("False, refused", "counts neither for the test nor for the taster");
        TasterPanels x = Due.panel(4, 1);
        for (int test = 0; test < 4; test++) {
            x.test(0, 3);
            Due.answer(x, test, 0, 0, false);
            for (int choice = -1; choice < 4; choice++) {
                due.same("answer(" + test + ", 0, " + choice + ")", x.answer(test, 0, choice), false);
            }
            due.same("right(" + test + ")", x.right(test), 0);
            due.chance(x, test, 1, 1);
        }
        due.same("out(0) with four answers", x.out(0), false);
        x.test(0, 3);
        Due.answer(x, 4, 0, 0, false);
        due.same("out(0) with five answers", x.out(0), true);
    }
}
