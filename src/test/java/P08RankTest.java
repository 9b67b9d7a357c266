/** Promise 8: a taster gives each sample of a ranking one rank, and each rank once. */
public final class P08RankTest {
    private static final String REFUSED = "False, refused, when there is no such ranking, taster, sample";

    public static void main(String[] args) {
        Due.all(
            P08RankTest::taken,
            P08RankTest::firstAndLast,
            P08RankTest::noTest,
            P08RankTest::otherKinds,
            P08RankTest::noTaster,
            P08RankTest::noSample,
            P08RankTest::noRank,
            P08RankTest::rankedThatSample,
            P08RankTest::givenThatRank,
            P08RankTest::othersAreFree,
            P08RankTest::refusedTakesNothing,
            P08RankTest::refusedCountsNowhere);
    }

    private static void taken(Due due) {
        due.sentence("A taster gives a sample of a ranking the rank r (1 for the first): true", "each sample, each rank");
        for (int samples = 2; samples <= 5; samples++) {
            for (int sample = 0; sample < samples; sample++) {
                for (int r = 1; r <= samples; r++) {
                    TasterPanels x = Due.panel(0, 1);
                    x.test(3, samples);
                    due.same("rank(0, 0, " + sample + ", " + r + ") of " + samples, x.rank(0, 0, sample, r), true);
                }
            }
        }
    }

    private static void firstAndLast(Due due) {
        due.sentence("A taster gives a sample of a ranking the rank r (1 for the first): true",
            "all samples by the first and the last taster in the first and the last test");
        TasterPanels x = Due.panel(0, 26);
        Due.tests(x, 40, 3, 5);
        for (int test : new int[] {0, 39}) {
            for (int taster : new int[] {0, 25}) {
                for (int sample = 0; sample < 5; sample++) {
                    due.same("rank(" + test + ", " + taster + ", " + sample + ", ..)", x.rank(test, taster, sample, 5 - sample), true);
                }
            }
        }
    }

    private static void noTest(Due due) {
        due.sentence(REFUSED, "no such test: of none, of one, of seven, of 40");
        for (int made : new int[] {0, 1, 7, 40}) {
            TasterPanels x = Due.panel(0, 26);
            Due.tests(x, made, 3, 5);
            for (int test : Due.strangers(made, 40)) {
                due.same("rank(" + test + ", 0, 0, 1) of " + made, x.rank(test, 0, 0, 1), false);
                due.same("rank(" + test + ", 25, 4, 5) of " + made, x.rank(test, 25, 4, 5), false);
            }
            for (int test = 0; test < made; test++) {
                due.same("rank(" + test + ", 0, 0, 1) of " + made, x.rank(test, 0, 0, 1), true);
            }
        }
    }

    private static void otherKinds(Due due) {
        due.sentence(REFUSED, "a triangle, pair or duo is no ranking");
        for (int kind = 0; kind < 3; kind++) {
            TasterPanels x = Due.panel(0, 2);
            x.test(kind, Due.samples(kind));
            for (int sample = 0; sample < 3; sample++) {
                for (int r = 1; r < 4; r++) {
                    due.same("rank(0, 1, " + sample + ", " + r + ")", x.rank(0, 1, sample, r), false);
                }
            }
        }
    }

    private static void noTaster(Due due) {
        due.sentence(REFUSED, "no such taster: of none, of one, of seven, of 26");
        for (int made : new int[] {0, 1, 7, 26}) {
            TasterPanels x = Due.panel(0, made);
            x.test(3, 2);
            for (int taster : Due.strangers(made, 26)) {
                due.same("rank(0, " + taster + ", 0, 1) of " + made, x.rank(0, taster, 0, 1), false);
                due.same("rank(0, " + taster + ", 1, 2) of " + made, x.rank(0, taster, 1, 2), false);
            }
            due.same("permuted(0, 0) of " + made, x.permuted(0, 0), -1);
            for (int taster = 0; taster < made; taster++) {
                due.same("rank(0, " + taster + ", 1, 2) of " + made, x.rank(0, taster, 1, 2), true);
            }
        }
    }

    private static void noSample(Due due) {
        for (int samples = 2; samples <= 5; samples++) {
            due.sentence(REFUSED, "no such sample: of " + samples);
            TasterPanels x = Due.panel(0, 26);
            x.test(3, samples);
            for (int sample : Due.strangers(samples, samples)) {
                for (int taster : new int[] {0, 24, 25}) {
                    due.same("rank(0, " + taster + ", " + sample + ", 1)", x.rank(0, taster, sample, 1), false);
                }
            }
            due.same("sample 0", x.rank(0, 25, 0, 1), true);
            due.same("the last sample", x.rank(0, 25, samples - 1, samples), true);
        }
    }

    private static void noRank(Due due) {
        for (int samples = 2; samples <= 5; samples++) {
            due.sentence("r is not 1 .. the number of samples", "of " + samples + " samples");
            TasterPanels x = Due.panel(0, 26);
            x.test(3, samples);
            due.same("rank 0", x.rank(0, 0, 0, 0), false);
            for (int r : Due.strangers(samples + 1, samples + 1)) {
                for (int sample = 0; sample < samples; sample++) {
                    due.same("rank(0, 0, " + sample + ", " + r + ")", x.rank(0, 0, sample, r), false);
                }
            }
            due.same("rank 1", x.rank(0, 0, 0, 1), true);
            due.same("the last rank", x.rank(0, 0, 1, samples), true);
            due.same("rank 0 behind them", x.rank(0, 0, samples - 1, 0), false);
        }
    }

    private static void rankedThatSample(Due due) {
        due.sentence("or the taster has ranked that sample", "with the same rank or another, each sample");
        for (int samples = 2; samples <= 5; samples++) {
            TasterPanels x = Due.panel(0, 26);
            x.test(3, samples);
            for (int taster : new int[] {0, 25}) {
                for (int sample = 0; sample < samples; sample++) {
                    x.rank(0, taster, sample, samples - sample);
                    for (int r = 1; r <= samples; r++) {
                        due.same("rank(0, " + taster + ", " + sample + ", " + r + ") again", x.rank(0, taster, sample, r), false);
                    }
                }
            }
        }
    }

    private static void givenThatRank(Due due) {
        due.sentence("or has given that rank", "to a sample below or above, each rank");
        for (int samples = 2; samples <= 5; samples++) {
            for (int first = 0; first < samples; first++) {
                for (int r = 1; r <= samples; r++) {
                    TasterPanels x = Due.panel(0, 26);
                    x.test(3, samples);
                    x.rank(0, 25, first, r);
                    for (int sample = 0; sample < samples; sample++) {
                        due.same("rank(0, 25, " + sample + ", " + r + ") behind sample " + first, x.rank(0, 25, sample, r), false);
                    }
                }
            }
        }
    }

    private static void othersAreFree(Due due) {
        due.sentence("or has given that rank", "the same taster in the same ranking alone");
        TasterPanels x = Due.panel(0, 3);
        Due.tests(x, 3, 3, 5);
        for (int sample = 0; sample < 5; sample++) {
            due.same("rank(1, 1, " + sample + ", ..)", x.rank(1, 1, sample, sample + 1), true);
        }
        for (int sample = 0; sample < 5; sample++) {
            due.same("a taster below", x.rank(1, 0, sample, sample + 1), true);
            due.same("a taster above", x.rank(1, 2, sample, sample + 1), true);
            due.same("a ranking below", x.rank(0, 1, sample, sample + 1), true);
            due.same("a ranking above", x.rank(2, 1, sample, sample + 1), true);
        }
    }

    private static void refusedTakesNothing(Due due) {
        due.sentence("False, refused", "takes neither the sample nor the rank");
        TasterPanels x = Due.panel(0, 1);
        x.test(3, 3);
        due.same("rank(0, 0, 0, 1)", x.rank(0, 0, 0, 1), true);
        due.same("sample 0 is ranked", x.rank(0, 0, 0, 2), false);
        due.same("rank 1 is given", x.rank(0, 0, 1, 1), false);
        due.same("rank 0 is none", x.rank(0, 0, 1, 0), false);
        due.same("rank 4 is none", x.rank(0, 0, 1, 4), false);
        due.same("sample 3 is none", x.rank(0, 0, 3, 2), false);
        due.same("sample -1 is none", x.rank(0, 0, -1, 2), false);
        due.same("sample 1 and rank 2 are free", x.rank(0, 0, 1, 2), true);
        due.same("sample 2 and rank 3 are free", x.rank(0, 0, 2, 3), true);
    }

    private static void refusedCountsNowhere(Due due) {
        due.sentence("False, refused", "leaves the ranks that were given");
        TasterPanels x = Due.panel(0, 2);
        x.test(3, 3);
        Due.rankAll(x, 0, 0, 3, 1);
        due.permuted(x, 0, 2, 3);
        for (int r = 0; r <= 4; r++) {
            due.same("rank(0, 0, 0, " + r + ")", x.rank(0, 0, 0, r), false);
        }
        due.same("rank(0, 2, 0, 1)", x.rank(0, 2, 0, 1), false);
        due.permuted(x, 0, 2, 3);
    }
}
