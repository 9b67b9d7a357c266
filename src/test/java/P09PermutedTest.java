/** Promise 9: the chance that the ranks of sample 0 add up to a sum as far from the middle. */
public final class P09PermutedTest {
    public static void main(String[] args) {
        Due due = new Due();
        known(due, 2, new int[] {1}, 1, 1);
        known(due, 3, new int[] {2}, 1, 1);
        known(due, 3, new int[] {1}, 2, 3);
        known(due, 3, new int[] {3}, 2, 3);
        known(due, 3, new int[] {1, 1}, 2, 9);
        known(due, 3, new int[] {1, 2}, 2, 3);
        known(due, 4, new int[] {4, 4, 4}, 1, 32);
        known(due, 4, new int[] {1, 2, 2}, 5, 16);
        known(due, 5, new int[] {5, 4}, 6, 25);
        known(due, 2, many(26, 1), 1, 33554432);
        known(due, 4, many(26, 1), 1, 2251799813685248L);
        known(due, 5, many(26, 3), 1, 1);
        known(due, 5, many(26, 1), 2, 1490116119384765625L);
        known(due, 5, many(26, 5), 2, 1490116119384765625L);
        known(due, 5, many(25, 1, 2), 54, 1490116119384765625L);
        known(due, 5, many(26, 1, 2, 3, 4, 5), 1245879142567030082L, 1490116119384765625L);
        bruteForce(due);
        onlyThoseWhoRankedAll(due);
        wrongInputs(due);
        due.end();
    }

    /** The first of the ranks so often, or all in turn up to 26; the 26th is the last of them. */
    private static int[] many(int times, int... ranks) {
        int[] row = new int[26];
        for (int i = 0; i < 26; i++) {
            row[i] = times == 26 ? ranks[i % ranks.length] : i < times ? ranks[0] : ranks[1];
        }
        return row;
    }

    /** All samples ranked, sample 0 with this rank. */
    private static void rankAll(TasterPanels x, int test, int taster, int samples, int first) {
        for (int sample = 0; sample < samples; sample++) {
            x.rank(test, taster, sample, (first - 1 + sample) % samples + 1);
        }
    }

    private static TasterPanels ranked(int samples, int[] ranks) {
        TasterPanels x = Due.panel(0, 26);
        x.test(3, samples);
        for (int taster = 0; taster < ranks.length; taster++) {
            rankAll(x, 0, taster, samples, ranks[taster]);
        }
        return x;
    }

    private static void known(Due due, int samples, int[] ranks, long above, long below) {
        TasterPanels x = ranked(samples, ranks);
        due.permuted(x, 0, above, below);
        due.permuted(x, 0, above, below);
    }

    private static void bruteForce(Due due) {
        for (int samples = 2; samples <= 5; samples++) {
            for (int rankers = 1; rankers <= 4; rankers++) {
                int all = (int) Math.round(Math.pow(samples, rankers));
                for (int row = 0; row < all; row++) {
                    int far = far(row, rankers, samples);
                    long ways = 0;
                    for (int other = 0; other < all; other++) {
                        ways += far(other, rankers, samples) >= far ? 1 : 0;
                    }
                    int[] ranks = new int[rankers];
                    for (int i = 0, rest = row; i < rankers; i++, rest /= samples) {
                        ranks[i] = rest % samples + 1;
                    }
                    long divisor = java.math.BigInteger.valueOf(ways).gcd(java.math.BigInteger.valueOf(all)).longValue();
                    due.permuted(ranked(samples, ranks), 0, ways / divisor, all / divisor);
                }
            }
        }
    }

    private static int far(int row, int rankers, int samples) {
        int sum = 0;
        for (int i = 0, rest = row; i < rankers; i++, rest /= samples) {
            sum += rest % samples + 1;
        }
        return Math.abs(2 * sum - rankers * (samples + 1));
    }

    private static void onlyThoseWhoRankedAll(Due due) {
        TasterPanels x = Due.panel(0, 26);
        x.test(3, 3);
        x.test(3, 3);
        x.rank(0, 4, 0, 1);
        x.rank(0, 4, 1, 2);
        due.same("permuted(0, 0), one rank missing", x.permuted(0, 0), -1);
        due.same("permuted(0, 1), one rank missing", x.permuted(0, 1), -1);
        x.rank(0, 5, 1, 1);
        x.rank(0, 5, 2, 2);
        due.same("permuted(0, 0), the rank of sample 0 missing", x.permuted(0, 0), -1);
        rankAll(x, 0, 25, 3, 2);
        due.permuted(x, 0, 1, 1);
        rankAll(x, 0, 7, 3, 3);
        due.permuted(x, 0, 2, 3);
        x.rank(0, 4, 2, 3);
        due.permuted(x, 0, 1, 1);
        due.same("permuted of another ranking", x.permuted(1, 0), -1);
        rankAll(x, 1, 0, 3, 1);
        due.permuted(x, 1, 2, 3);
        due.permuted(x, 0, 1, 1);
    }

    private static void wrongInputs(Due due) {
        TasterPanels x = ranked(2, new int[] {1, 1});
        due.permuted(x, 0, 1, 2);
        x.test(0, 3);
        x.test(1, 2);
        x.test(2, 2);
        x.answer(1, 0, 0);
        for (int part : new int[] {-1, 2, Integer.MAX_VALUE, Integer.MIN_VALUE}) {
            due.same("permuted(0, " + part + ")", x.permuted(0, part), -1);
        }
        for (int test : new int[] {-1, 1, 2, 3, 4, 39, 40, Integer.MAX_VALUE, Integer.MIN_VALUE}) {
            due.same("permuted(" + test + ", 0)", x.permuted(test, 0), -1);
            due.same("permuted(" + test + ", 1)", x.permuted(test, 1), -1);
        }
    }
}
