import java.math.BigInteger;

/** Promise 6: the chance, by guessing, of at least as many right answers. */
public final class P06ChanceTest {
    private static final String AT_LEAST = "The chance that at least as many answers of a triangle, pair or duo as were right are right";

    public static void main(String[] args) {
        Due.all(
            P06ChanceTest::knownOnes,
            P06ChanceTest::everyCount,
            P06ChanceTest::noneRight,
            P06ChanceTest::allRight,
            P06ChanceTest::oneRight,
            P06ChanceTest::growing,
            P06ChanceTest::noTest,
            P06ChanceTest::ranking,
            P06ChanceTest::noAnswers,
            P06ChanceTest::noAnswersOfItsOwn,
            P06ChanceTest::anotherPart);
    }

    private static void knownOnes(Due due) {
        due.sentence(AT_LEAST, "some that were reckoned by hand or by another program");
        // {kind, answers, rights}, above, below
        known(due, new int[] {0, 1, 0}, 1, 1);
        known(due, new int[] {0, 1, 1}, 1, 3);
        known(due, new int[] {0, 3, 2}, 7, 27);
        known(due, new int[] {0, 6, 3}, 233, 729);
        known(due, new int[] {0, 26, 0}, 1, 1);
        known(due, new int[] {0, 26, 1}, 2541798719465L, 2541865828329L);
        known(due, new int[] {0, 26, 13}, 148123058153L, 2541865828329L);
        known(due, new int[] {0, 26, 26}, 1, 2541865828329L);
        known(due, new int[] {1, 4, 2}, 11, 16);
        known(due, new int[] {1, 26, 1}, 67108863, 67108864);
        known(due, new int[] {1, 26, 13}, 9688683, 16777216);
        known(due, new int[] {2, 26, 26}, 1, 67108864);
        known(due, new int[] {2, 26, 0}, 1, 1);
    }

    private static TasterPanels answered(int kind, int answers, int rights) {
        TasterPanels x = Due.panel(31 * kind + answers, 26);
        x.test(kind, Due.samples(kind));
        for (int taster = 0; taster < answers; taster++) {
            Due.answer(x, 0, kind, taster, taster < rights);
        }
        return x;
    }

    private static void known(Due due, int[] of, long above, long below) {
        TasterPanels x = answered(of[0], of[1], of[2]);
        due.chance(x, 0, above, below);
        due.chance(x, 0, above, below);
    }

    private static void everyCount(Due due) {
        due.sentence("when all are guessed", "each kind, each number of answers, each number of right ones");
        for (int kind = 0; kind < 3; kind++) {
            int places = Due.samples(kind);
            for (int answers = 1; answers <= 26; answers++) {
                BigInteger all = BigInteger.valueOf(places).pow(answers);
                for (int rights = 0; rights <= answers; rights++) {
                    BigInteger ways = Model.atLeast(rights, answers, places);
                    BigInteger divisor = ways.gcd(all);
                    due.chance(answered(kind, answers, rights), 0, ways.divide(divisor).longValueExact(),
                        all.divide(divisor).longValueExact());
                }
            }
        }
    }

    private static void noneRight(Due due) {
        due.sentence(AT_LEAST, "none was right: 1 / 1");
        for (int kind = 0; kind < 3; kind++) {
            for (int answers = 1; answers <= 26; answers++) {
                due.chance(answered(kind, answers, 0), 0, 1, 1);
            }
        }
    }

    private static void allRight(Due due) {
        due.sentence(AT_LEAST, "all were right: 1 of all ways, up to 26 answers");
        for (int kind = 0; kind < 3; kind++) {
            long all = 1;
            for (int answers = 1; answers <= 26; answers++) {
                all *= Due.samples(kind);
                due.chance(answered(kind, answers, answers), 0, 1, all);
            }
        }
    }

    private static void oneRight(Due due) {
        due.sentence(AT_LEAST, "one was right: all ways but those with none");
        for (int kind = 0; kind < 3; kind++) {
            long all = 1;
            long none = 1;
            for (int answers = 1; answers <= 26; answers++) {
                all *= Due.samples(kind);
                none *= Due.samples(kind) - 1;
                due.chance(answered(kind, answers, 1), 0, all - none, all);
            }
        }
    }

    private static void growing(Due due) {
        due.sentence("as were right", "it changes with each answer");
        TasterPanels x = Due.panel(9, 4);
        x.test(0, 3);
        Due.answer(x, 0, 0, 3, true);
        due.chance(x, 0, 1, 3);
        Due.answer(x, 0, 0, 0, false);
        due.chance(x, 0, 5, 9);
        Due.answer(x, 0, 0, 2, true);
        due.chance(x, 0, 7, 27);
        Due.answer(x, 0, 0, 1, false);
        due.chance(x, 0, 11, 27);
    }

    private static void noTest(Due due) {
        due.sentence("NONE when there is no such test", "of none, of one, of seven, of 40");
        for (int made : new int[] {0, 1, 7, 40}) {
            TasterPanels x = Due.panel(2, 1);
            for (int test = 0; test < made; test++) {
                x.test(1, 2);
                x.answer(test, 0, 0);
            }
            for (int test : Due.strangers(made, 40)) {
                due.same("chance(" + test + ", 0) of " + made, x.chance(test, 0), -1);
                due.same("chance(" + test + ", 1) of " + made, x.chance(test, 1), -1);
            }
            if (made > 0) {
                due.same("the last of " + made, x.chance(made - 1, 1) >= 1, true);
            }
        }
    }

    private static void ranking(Due due) {
        due.sentence("NONE when there is no such test", "a ranking is none, ranked or not");
        for (int samples = 2; samples <= 5; samples++) {
            TasterPanels x = Due.panel(2, 1);
            x.test(3, samples);
            due.same("chance(0, 0)", x.chance(0, 0), -1);
            due.same("chance(0, 1)", x.chance(0, 1), -1);
            Due.rankAll(x, 0, 0, samples, 1);
            x.answer(0, 0, 0);
            due.same("chance(0, 0) when ranked", x.chance(0, 0), -1);
            due.same("chance(0, 1) when ranked", x.chance(0, 1), -1);
        }
    }

    private static void noAnswers(Due due) {
        due.sentence("it has no answers", "each kind, with tasters and without, and with refused answers alone");
        for (int kind = 0; kind < 3; kind++) {
            TasterPanels x = new TasterPanels(2);
            x.test(kind, Due.samples(kind));
            due.same("chance(0, 0) without tasters", x.chance(0, 0), -1);
            due.same("chance(0, 1) without tasters", x.chance(0, 1), -1);
            x.taster();
            due.same("chance(0, 0) without answers", x.chance(0, 0), -1);
            due.same("chance(0, 1) without answers", x.chance(0, 1), -1);
            x.answer(0, 0, 3);
            x.answer(0, 1, 0);
            due.same("chance(0, 0) with refused answers", x.chance(0, 0), -1);
            due.same("chance(0, 1) with refused answers", x.chance(0, 1), -1);
            x.answer(0, 0, 0);
            due.same("chance(0, 1) with one answer", x.chance(0, 1) >= 1, true);
        }
    }

    private static void noAnswersOfItsOwn(Due due) {
        due.sentence("it has no answers", "those to other tests are not its own");
        TasterPanels x = Due.panel(2, 2);
        Due.tests(x, 3, 0, 3);
        Due.answer(x, 0, 0, 0, true);
        Due.answer(x, 2, 0, 0, true);
        Due.answer(x, 2, 0, 1, true);
        due.same("chance(1, 0)", x.chance(1, 0), -1);
        due.same("chance(1, 1)", x.chance(1, 1), -1);
        due.chance(x, 0, 1, 3);
        due.chance(x, 2, 1, 9);
    }

    private static void anotherPart(Due due) {
        due.sentence("or for another part", "below 0 and above 1, each kind");
        for (int kind = 0; kind < 3; kind++) {
            TasterPanels x = answered(kind, 2, 2);
            for (int part : Due.strangers(2, 2)) {
                due.same("chance(0, " + part + ")", x.chance(0, part), -1);
            }
            due.chance(x, 0, 1, kind == 0 ? 9 : 4);
        }
    }
}
