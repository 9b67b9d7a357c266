import java.math.BigInteger;

/** Promise 9: the chance that the ranks of sample 0 add up to a sum as far from the middle. */
public final class P09PermutedTest {
    private static final String AS_FAR = "the chance that the sum of the ranks of sample 0 is at least as far from the middle";
    private static final long FIVE_TO_26 = 1490116119384765625L;

    public static void main(String[] args) {
        Due.all(
            P09PermutedTest::knownOnes,
            P09PermutedTest::bruteForce,
            P09PermutedTest::inTheMiddle,
            P09PermutedTest::halfMiddle,
            P09PermutedTest::farthest,
            P09PermutedTest::bothSides,
            P09PermutedTest::rankedAll,
            P09PermutedTest::otherSamplesDoNotCount,
            P09PermutedTest::whichTastersRanked,
            P09PermutedTest::noTest,
            P09PermutedTest::otherKinds,
            P09PermutedTest::noTasters,
            P09PermutedTest::noneRankedAll,
            P09PermutedTest::anotherPart);
    }

    private static void knownOnes(Due due) {
        due.sentence(AS_FAR, "some that were reckoned by hand or by another program");
        known(due, 2, new int[] {1}, 1, 1);
        known(due, 3, new int[] {2}, 1, 1);
        known(due, 3, new int[] {1}, 2, 3);
        known(due, 3, new int[] {3}, 2, 3);
        known(due, 3, new int[] {1, 1}, 2, 9);
        known(due, 3, new int[] {1, 2}, 2, 3);
        known(due, 4, new int[] {4, 4, 4}, 1, 32);
        known(due, 4, new int[] {1, 2, 2}, 5, 16);
        known(due, 5, new int[] {5, 4}, 6, 25);
        known(due, 5, many(25, 1, 2), 54, FIVE_TO_26);
        known(due, 5, many(26, 1, 2, 3, 4, 5), 1245879142567030082L, FIVE_TO_26);
    }

    /** The first of the ranks so often, or all in turn up to 26; the 26th is the last of them. */
    private static int[] many(int times, int... ranks) {
        int[] row = new int[26];
        for (int i = 0; i < 26; i++) {
            row[i] = times == 26 ? ranks[i % ranks.length] : i < times ? ranks[0] : ranks[1];
        }
        return row;
    }

    private static TasterPanels ranked(int samples, int[] ranks) {
        TasterPanels x = Due.panel(0, 26);
        x.test(3, samples);
        for (int taster = 0; taster < ranks.length; taster++) {
            Due.rankAll(x, 0, taster, samples, ranks[taster]);
        }
        return x;
    }

    private static void known(Due due, int samples, int[] ranks, long above, long below) {
        TasterPanels x = ranked(samples, ranks);
        due.permuted(x, 0, above, below);
        due.permuted(x, 0, above, below);
    }

    private static void bruteForce(Due due) {
        due.sentence("when all ranks of it are as likely", "all rows of ranks of up to four tasters, counted one by one");
        for (int samples = 2; samples <= 5; samples++) {
            for (int rankers = 1; rankers <= 4; rankers++) {
                int all = (int) Math.round(Math.pow(samples, rankers));
                for (int row = 0; row < all; row++) {
                    int far = far(row, rankers, samples);
                    long ways = 0;
                    for (int other = 0; other < all; other++) {
                        ways += far(other, rankers, samples) >= far ? 1 : 0;
                    }
                    int[] ranks = new int[rankers];
                    for (int i = 0, rest = row; i < rankers; i++, rest /= samples) {
                        ranks[i] = rest % samples + 1;
                    }
                    long divisor = BigInteger.valueOf(ways).gcd(BigInteger.valueOf(all)).longValue();
                    due.permuted(ranked(samples, ranks), 0, ways / divisor, all / divisor);
                }
            }
        }
    }

    private static int far(int row, int rankers, int samples) {
        int sum = 0;
        for (int i = 0, rest = row; i < rankers; i++, rest /= samples) {
            sum += rest % samples + 1;
        }
        return Math.abs(2 * sum - rankers * (samples + 1));
    }

    private static void inTheMiddle(Due due) {
        due.sentence("the middle (their number * (samples + 1) / 2)", "a sum in the middle: 1 / 1");
        known(due, 3, new int[] {2}, 1, 1);
        known(due, 2, new int[] {1, 2}, 1, 1);
        known(due, 3, new int[] {1, 3}, 1, 1);
        known(due, 4, new int[] {2, 3}, 1, 1);
        known(due, 4, new int[] {4, 1}, 1, 1);
        known(due, 5, new int[] {5, 3, 1}, 1, 1);
        known(due, 5, many(26, 3), 1, 1);
        known(due, 5, many(26, 1, 5), 1, 1);
        known(due, 2, many(26, 1, 2), 1, 1);
    }

    private static void halfMiddle(Due due) {
        due.sentence("the middle (their number * (samples + 1) / 2)", "a middle that is a half: both nearest sums are as far");
        known(due, 2, new int[] {1}, 1, 1);
        known(due, 2, new int[] {2}, 1, 1);
        known(due, 4, new int[] {2}, 1, 1);
        known(due, 4, new int[] {3}, 1, 1);
        known(due, 4, new int[] {1}, 1, 2);
        known(due, 4, new int[] {4}, 1, 2);
        known(due, 2, new int[] {1, 1, 2}, 1, 1);
        known(due, 2, new int[] {2, 1, 2}, 1, 1);
        known(due, 2, new int[] {1, 1, 1}, 1, 4);
    }

    private static void farthest(Due due) {
        due.sentence(AS_FAR, "the lowest and the highest sum: two of all ways, up to 26 tasters");
        for (int samples = 2; samples <= 5; samples++) {
            long all = 1;
            for (int rankers = 1; rankers <= 26; rankers++) {
                all *= samples;
                boolean even = all % 2 == 0;
                long above = even ? 1 : 2;
                long below = even ? all / 2 : all;
                for (int rank : new int[] {1, samples}) {
                    int[] ranks = new int[rankers];
                    java.util.Arrays.fill(ranks, rank);
                    due.permuted(ranked(samples, ranks), 0, above, below);
                }
            }
        }
        due.permuted(ranked(5, many(26, 1)), 0, 2, FIVE_TO_26);
    }

    private static void bothSides(Due due) {
        due.sentence("at least as far from the middle", "as far below it as above it");
        for (int samples = 2; samples <= 5; samples++) {
            for (int low = 1; low <= samples; low++) {
                for (int second = 1; second <= samples; second++) {
                    TasterPanels below = ranked(samples, new int[] {low, second, 1});
                    TasterPanels above = ranked(samples, new int[] {samples + 1 - low, samples + 1 - second, samples});
                    due.permuted(above, 0, below.permuted(0, 0), below.permuted(0, 1));
                }
            }
        }
    }

    private static void rankedAll(Due due) {
        due.sentence("Of the tasters that have ranked all samples of a ranking",
            "one that misses a sample does not count until it is ranked");
        for (int samples = 2; samples <= 5; samples++) {
            for (int missing = 0; missing < samples; missing++) {
                TasterPanels x = Due.panel(0, 26);
                x.test(3, samples);
                Due.rankAll(x, 0, 25, samples, 1);
                long above = x.permuted(0, 0);
                long below = x.permuted(0, 1);
                for (int sample = 0; sample < samples; sample++) {
                    if (sample != missing) {
                        x.rank(0, 4, sample, sample + 1);
                    }
                }
                due.permuted(x, 0, above, below);
                x.rank(0, 4, missing, missing + 1);
                due.permuted(x, 0, samples % 2 == 0 ? 1 : 2, samples * samples / (samples % 2 == 0 ? 2 : 1));
            }
        }
    }

    private static void otherSamplesDoNotCount(Due due) {
        due.sentence("the sum of the ranks of sample 0", "of no other sample, and of no other ranking");
        TasterPanels x = Due.panel(0, 3);
        x.test(3, 3);
        x.test(3, 3);
        x.rank(0, 0, 0, 2);
        x.rank(0, 0, 1, 1);
        x.rank(0, 0, 2, 3);
        due.permuted(x, 0, 1, 1);
        Due.rankAll(x, 1, 0, 3, 1);
        due.permuted(x, 1, 2, 3);
        due.permuted(x, 0, 1, 1);
    }

    private static void whichTastersRanked(Due due) {
        due.sentence("Of the tasters that have ranked all samples of a ranking", "any of them, the first, the last, some between");
        for (int taster = 0; taster < 26; taster++) {
            TasterPanels x = Due.panel(0, 26);
            x.test(3, 3);
            Due.rankAll(x, 0, taster, 3, 3);
            due.permuted(x, 0, 2, 3);
            Due.rankAll(x, 0, (taster + 13) % 26, 3, 3);
            due.permuted(x, 0, 2, 9);
        }
    }

    private static void noTest(Due due) {
        due.sentence("NONE when there is no such ranking", "no such test: of none, of one, of seven, of 40");
        for (int made : new int[] {0, 1, 7, 40}) {
            TasterPanels x = Due.panel(0, 1);
            Due.tests(x, made, 3, 2);
            for (int test = 0; test < made; test++) {
                Due.rankAll(x, test, 0, 2, 1);
            }
            for (int test : Due.strangers(made, 40)) {
                due.same("permuted(" + test + ", 0) of " + made, x.permuted(test, 0), -1);
                due.same("permuted(" + test + ", 1) of " + made, x.permuted(test, 1), -1);
            }
            if (made > 0) {
                due.permuted(x, made - 1, 1, 1);
            }
        }
    }

    private static void otherKinds(Due due) {
        due.sentence("NONE when there is no such ranking", "a triangle, pair or duo is none, answered or not");
        for (int kind = 0; kind < 3; kind++) {
            TasterPanels x = Due.panel(0, 1);
            x.test(kind, Due.samples(kind));
            due.same("permuted(0, 0)", x.permuted(0, 0), -1);
            due.same("permuted(0, 1)", x.permuted(0, 1), -1);
            x.answer(0, 0, 0);
            Due.rankAll(x, 0, 0, Due.samples(kind), 1);
            due.same("permuted(0, 0) when answered", x.permuted(0, 0), -1);
            due.same("permuted(0, 1) when answered", x.permuted(0, 1), -1);
        }
    }

    private static void noTasters(Due due) {
        due.sentence("there are no such tasters", "no tasters at all, or none that has ranked");
        for (int samples = 2; samples <= 5; samples++) {
            TasterPanels x = new TasterPanels(0);
            x.test(3, samples);
            due.same("permuted(0, 0) without tasters", x.permuted(0, 0), -1);
            due.same("permuted(0, 1) without tasters", x.permuted(0, 1), -1);
            x.taster();
            due.same("permuted(0, 0) without ranks", x.permuted(0, 0), -1);
            due.same("permuted(0, 1) without ranks", x.permuted(0, 1), -1);
        }
    }

    private static void noneRankedAll(Due due) {
        due.sentence("there are no such tasters", "all 26 have ranked all samples but one");
        for (int samples = 2; samples <= 5; samples++) {
            TasterPanels x = Due.panel(0, 26);
            x.test(3, samples);
            for (int taster = 0; taster < 26; taster++) {
                for (int sample = 0; sample < samples; sample++) {
                    if (sample != taster % samples) {
                        x.rank(0, taster, sample, sample + 1);
                    }
                }
            }
            due.same("permuted(0, 0) of " + samples, x.permuted(0, 0), -1);
            due.same("permuted(0, 1) of " + samples, x.permuted(0, 1), -1);
        }
    }

    private static void anotherPart(Due due) {
        due.sentence("or for another part", "below 0 and above 1");
        TasterPanels x = ranked(2, new int[] {1, 1});
        for (int part : Due.strangers(2, 2)) {
            due.same("permuted(0, " + part + ")", x.permuted(0, part), -1);
        }
        due.permuted(x, 0, 1, 2);
    }
}
