/** Promise 4: what a taster is served. */
public final class P04OrderTest {
    private static final int[][] TESTS = {{0, 3}, {1, 2}, {2, 2}, {3, 2}, {3, 3}, {3, 4}, {3, 5}};

    // Of tests 0 to 6, made as TESTS has them: reckoned by another program.
    private static final String[] SEED_7 = {
        "AAB BBA ABB BAB ABA BAA BAA AAB ABA BBA ABB BAB BAB ABB BAA ABA BBA AAB ABB ABA BBA AAB BAB BAA AAB ABA",
        "BA AB BA AB BA AB BA AB BA AB BA AB BA AB BA AB BA AB BA AB BA AB BA AB BA AB",
        "AAB BBA ABA BAB BBA ABA BAB AAB ABA BBA AAB BAB ABA BAB BBA AAB ABA AAB BBA BAB ABA BBA BAB AAB BBA ABA",
        "10 01 10 01 10 01 10 01 10 01 10 01 10 01 10 01 10 01 10 01 10 01 10 01 10 01",
        "021 210 120 201 102 012 120 021 210 201 012 102 120 210 012 102 021 201 021 102 120 210 201 012 120 021",
        "0123 0231 1320 2031 0132 2103 1230 2310 1023 1032 0213 3012 2301 2130 3201 3102 1203 3210 1302 3120 0321 0312 3021 2013 0231 2031",
        "43102 23401 02413 02431 21043 34201 31402 04231 41023 34210 40231 12403 03214 24310 02314 13042 14203 14032 42130 14302 12034 41230 43201 32041 01234 20143",
    };
    private static final String[] SEED_HIGHEST = {
        "BBA BAA ABB ABA BAB AAB ABB BAB ABA BBA AAB BAA AAB ABA BBA BAA ABB BAB BBA BAB ABA ABB BAA AAB ABA AAB",
        "BA AB BA AB BA AB BA AB BA AB BA AB BA AB BA AB BA AB BA AB BA AB BA AB BA AB",
        "BAB ABA BBA AAB ABA BBA AAB BAB BAB BBA ABA AAB BBA AAB ABA BAB ABA BBA BAB AAB AAB BBA ABA BAB BBA BAB",
        "10 01 10 01 10 01 10 01 10 01 10 01 10 01 10 01 10 01 10 01 10 01 10 01 10 01",
        "012 021 210 102 120 201 201 120 102 210 021 012 021 012 120 210 201 102 120 021 102 210 012 201 102 021",
        "2130 0123 3120 2310 0132 3210 2031 1230 3021 1302 2301 0213 2013 1032 1203 0231 1320 2103 3201 3012 3102 0312 0321 1023 2031 0312",
        "42310 10243 30142 04231 13204 23140 10342 20413 04321 02431 04132 12340 13240 41302 02413 32410 02143 12034 12304 40231 24301 43120 40213 41203 30214 34012",
    };

    public static void main(String[] args) {
        Due.all(
            due -> rows(due, 7, SEED_7),
            due -> rows(due, Long.MAX_VALUE, SEED_HIGHEST),
            P04OrderTest::againstModel,
            P04OrderTest::testsComeBeforeTasters,
            P04OrderTest::staysTheSame,
            P04OrderTest::fromZero,
            P04OrderTest::noTest,
            P04OrderTest::noTaster,
            P04OrderTest::noNumber,
            P04OrderTest::asksOnly);
    }

    private static TasterPanels made(long seed, int tasters) {
        TasterPanels x = Due.panel(seed, tasters);
        for (int[] test : TESTS) {
            x.test(test[0], test[1]);
        }
        return x;
    }

    private static void rows(Due due, long seed, String[] want) {
        due.sentence("0 for A, 1 for B, of a ranking the sample", "all that 26 tasters are served with seed " + seed);
        for (int test = 0; test < TESTS.length; test++) {
            TasterPanels x = made(seed, 26);
            String[] served = want[test].split(" ");
            for (int taster = 0; taster < 26; taster++) {
                due.same("seed " + seed + ", test " + test + ", taster " + taster,
                    Due.servings(x, test, taster, TESTS[test][0] == 3), served[taster]);
            }
        }
    }

    /** The tests with the highest numbers too, each kind under every number. */
    private static void againstModel(Due due) {
        due.sentence("What taster is served as number k, from 0, in a test", "each kind under each of the 40 numbers");
        for (int first = 0; first < TESTS.length; first++) {
            for (int taster = 0; taster < 26; taster += 5) {
                ofOneTaster(due, first, taster);
            }
        }
    }

    private static void ofOneTaster(Due due, int first, int taster) {
        long seed = 0x123456789abcdefL * (first - 3);
        TasterPanels x = Due.panel(seed, 26);
        Model m = new Model(seed);
        for (int i = 0; i < 26; i++) {
            m.taster();
        }
        for (int test = 0; test < 40; test++) {
            int[] of = TESTS[(first + test) % TESTS.length];
            x.test(of[0], of[1]);
            m.test(of[0], of[1]);
            for (int k = -1; k <= 5; k++) {
                due.same("order(" + test + ", " + taster + ", " + k + ")", x.order(test, taster, k), m.order(test, taster, k));
            }
        }
    }

    private static void testsComeBeforeTasters(Due due) {
        due.sentence("What taster is served as number k, from 0, in a test", "a taster that came behind the test");
        TasterPanels x = made(7, 0);
        for (int taster = 0; taster < 26; taster++) {
            due.same("order(0, " + taster + ", 0) before the taster", x.order(0, taster, 0), -1);
            x.taster();
            due.same("test 0, taster " + taster, Due.servings(x, 0, taster, false), SEED_7[0].split(" ")[taster]);
        }
    }

    private static void staysTheSame(Due due) {
        due.sentence("What taster is served as number k, from 0, in a test", "the same before and behind an answer, and asked again");
        TasterPanels x = made(7, 26);
        for (int again = 0; again < 2; again++) {
            for (int taster : new int[] {0, 5, 6, 25}) {
                String want = SEED_7[0].split(" ")[taster];
                due.same("taster " + taster, Due.servings(x, 0, taster, false), want);
                x.answer(0, taster, 0);
                due.same("taster " + taster + " behind its answer", Due.servings(x, 0, taster, false), want);
                x.test(3, 5);
                due.same("taster " + taster + " behind another test", Due.servings(x, 0, taster, false), want);
            }
        }
    }

    private static void fromZero(Due due) {
        due.sentence("What taster is served as number k, from 0, in a test", "0 is the first number and -1 none");
        TasterPanels x = made(7, 1);
        for (int test = 0; test < TESTS.length; test++) {
            int first = SEED_7[test].charAt(0) - (TESTS[test][0] == 3 ? '0' : 'A');
            due.same("order(" + test + ", 0, 0)", x.order(test, 0, 0), first);
            due.same("order(" + test + ", 0, -1)", x.order(test, 0, -1), -1);
        }
    }

    private static void noTest(Due due) {
        due.sentence("NONE when there is no such test, taster or number", "no such test: of none, of one, of seven, of 40");
        for (int made : new int[] {0, 1, 7, 40}) {
            TasterPanels x = Due.panel(1, 26);
            Due.tests(x, made, 3, 5);
            for (int test : Due.strangers(made, 40)) {
                due.same("order(" + test + ", 0, 0) of " + made, x.order(test, 0, 0), -1);
                due.same("order(" + test + ", 25, 4) of " + made, x.order(test, 25, 4), -1);
            }
            if (made > 0) {
                due.same("the last of " + made, x.order(made - 1, 25, 4) >= 0, true);
            }
        }
    }

    private static void noTaster(Due due) {
        due.sentence("NONE when there is no such test, taster or number", "no such taster: of none, of one, of seven, of 26");
        for (int made : new int[] {0, 1, 7, 26}) {
            TasterPanels x = made(1, made);
            for (int taster : Due.strangers(made, 26)) {
                for (int test = 0; test < TESTS.length; test++) {
                    due.same("order(" + test + ", " + taster + ", 0) of " + made, x.order(test, taster, 0), -1);
                }
            }
            for (int test = 0; made > 0 && test < TESTS.length; test++) {
                due.same("the last of " + made, x.order(test, made - 1, 0) >= 0, true);
            }
        }
    }

    private static void noNumber(Due due) {
        int[] served = {3, 2, 3, 2, 3, 4, 5};
        for (int test = 0; test < TESTS.length; test++) {
            due.sentence("NONE when there is no such test, taster or number",
                "no such number: kind " + TESTS[test][0] + " with " + TESTS[test][1] + " samples");
            TasterPanels x = made(1, 26);
            for (int taster : new int[] {0, 25}) {
                due.same("the last", x.order(test, taster, served[test] - 1) >= 0, true);
                for (int k : Due.strangers(served[test], served[test])) {
                    due.same("order(" + test + ", " + taster + ", " + k + ")", x.order(test, taster, k), -1);
                }
            }
        }
    }

    private static void asksOnly(Due due) {
        due.sentence("What taster is served as number k, from 0, in a test", "asking changes nothing");
        TasterPanels x = made(1, 2);
        for (int i = 0; i < 100; i++) {
            x.order(i % 8, i % 3, i % 6);
        }
        due.same("answer(0, 0, 0)", x.answer(0, 0, 0), true);
        due.same("rank(3, 1, 0, 1)", x.rank(3, 1, 0, 1), true);
        due.same("taster()", x.taster(), 2);
        due.same("test(0, 3)", x.test(0, 3), 7);
    }
}
