/** Panels of tasters: tests of differences with balanced orders, exact chances, rankings, thresholds. */
public final class TasterPanels {
    public static final int NONE = -1;
    public static final int FULL = -2;

    private static final int TRIANGLE = 0;
    private static final int PAIR = 1;
    private static final int DUO = 2;
    private static final int RANKING = 3;

    private static final int MOST_TASTERS = 26;
    private static final int MOST_TESTS = 40;
    private static final int MOST_SAMPLES = 5;
    private static final int MOST_ORDERS = 120;
    private static final int STEPS = 16;

    private static final int ABOVE = 0;
    private static final int BELOW = 1;

    // What is served, order by order: 0 is A, 1 is B.
    private static final int[] TRIANGLE_SERVED = {0, 0, 1, 0, 1, 0, 1, 0, 0, 1, 1, 0, 1, 0, 1, 0, 1, 1};
    private static final int[] PAIR_SERVED = {0, 1, 1, 0};
    private static final int[] DUO_SERVED = {0, 0, 1, 0, 1, 0, 1, 0, 1, 1, 1, 0};

    // The place that is right, order by order.
    private static final int[] TRIANGLE_RIGHT = {2, 1, 0, 2, 1, 0};
    private static final int[] PAIR_RIGHT = {1, 0};
    private static final int[] DUO_RIGHT = {0, 1, 1, 0};

    private static final int[] FACTORIALS = {1, 1, 2, 6, 24, 120};

    private static final class Taster {
        private final boolean[] told = new boolean[STEPS];
        private final boolean[] found = new boolean[STEPS];
        private int answers;
        private int rights;
    }

    private static final class Test {
        private final int kind;
        private final int samples;
        private final int[] orders = new int[MOST_TASTERS];
        private final boolean[] answered = new boolean[MOST_TASTERS];
        // Taster by taster a rank for each sample, 0 where none has been given.
        private final int[] ranks = new int[MOST_TASTERS * MOST_SAMPLES];
        private int answers;
        private int rights;

        private Test(int kind, int samples) {
            this.kind = kind;
            this.samples = samples;
        }
    }

    private final long seed;
    private final Taster[] tasters = new Taster[MOST_TASTERS];
    private final Test[] tests = new Test[MOST_TESTS];
    private int tasterCount;
    private int testCount;
    // Rows to reckon in, kept so that no call has to make its own.
    private final int[] mixed = new int[MOST_ORDERS];
    private final long[] sumWays = new long[MOST_TASTERS * MOST_SAMPLES + 1];

    public TasterPanels(long seed) {
        this.seed = seed;
    }

    public int taster() {
        if (tasterCount >= MOST_TASTERS) {
            return FULL;
        }
        tasters[tasterCount] = new Taster();
        return tasterCount++;
    }

    public int test(int kind, int samples) {
        if (!isKindOf(kind, samples)) {
            return NONE;
        }
        if (testCount >= MOST_TESTS) {
            return FULL;
        }
        Test made = new Test(kind, samples);
        giveOrders(made, testCount);
        tests[testCount] = made;
        return testCount++;
    }

    public int order(int test, int taster, int k) {
        Test asked = testAt(test);
        if (asked == null || tasterAt(taster) == null || k < 0 || k >= servings(asked)) {
            return NONE;
        }
        return served(asked, asked.orders[taster], k);
    }

    public boolean answer(int test, int taster, int choice) {
        Test asked = differenceAt(test);
        Taster by = tasterAt(taster);
        if (asked == null || by == null || choice < 0 || choice >= asked.samples || asked.answered[taster]) {
            return false;
        }
        asked.answered[taster] = true;
        asked.answers++;
        by.answers++;
        if (choice == rightPlace(asked.kind, asked.orders[taster])) {
            asked.rights++;
            by.rights++;
        }
        return true;
    }

    public long chance(int test, int part) {
        Test asked = differenceAt(test);
        if (asked == null || asked.answers == 0 || !isPart(part)) {
            return NONE;
        }
        long ways = waysOfAtLeast(asked.rights, asked.answers, asked.samples);
        return reducedPart(ways, power(asked.samples, asked.answers), part);
    }

    public int right(int test) {
        Test asked = differenceAt(test);
        return asked == null ? NONE : asked.rights;
    }

    public boolean rank(int test, int taster, int sample, int r) {
        Test asked = rankingAt(test);
        if (asked == null || tasterAt(taster) == null || sample < 0 || sample >= asked.samples) {
            return false;
        }
        if (r < 1 || r > asked.samples || rankOf(asked, taster, sample) != 0 || hasGiven(asked, taster, r)) {
            return false;
        }
        asked.ranks[taster * MOST_SAMPLES + sample] = r;
        return true;
    }

    public long permuted(int test, int part) {
        Test asked = rankingAt(test);
        if (asked == null || !isPart(part)) {
            return NONE;
        }
        int rankers = 0;
        int sum = 0;
        for (int taster = 0; taster < MOST_TASTERS; taster++) {
            if (hasRankedAll(asked, taster)) {
                rankers++;
                sum += rankOf(asked, taster, 0);
            }
        }
        if (rankers == 0) {
            return NONE;
        }
        long ways = waysAsFarAs(sum, rankers, asked.samples);
        return reducedPart(ways, power(asked.samples, rankers), part);
    }

    public double threshold(int taster) {
        Taster asked = tasterAt(taster);
        if (asked == null) {
            return -1.0;
        }
        int least = NONE;
        for (int k = STEPS - 1; k >= 0; k--) {
            if (asked.told[k] && !asked.found[k]) {
                return least == NONE ? strength(k) * 2.0 : (strength(least) + strength(k)) / 2.0;
            }
            if (asked.told[k]) {
                least = k;
            }
        }
        return least == NONE ? 0.0 : strength(least) / 2.0;
    }

    public boolean level(int taster, int k, boolean found) {
        Taster by = tasterAt(taster);
        if (by == null || k < 0 || k >= STEPS) {
            return false;
        }
        by.told[k] = true;
        by.found[k] = found;
        return true;
    }

    public boolean out(int taster) {
        Taster asked = tasterAt(taster);
        return asked != null && asked.answers >= 5 && 3 * asked.rights < asked.answers;
    }

    public int size(int kind, long above, long below) {
        if (kind < TRIANGLE || kind > DUO || above < 1 || below < 1) {
            return NONE;
        }
        // below / above, rounded up: a product of above and the ways could wrap.
        long wanted = (below - 1) / above + 1;
        int places = kind == TRIANGLE ? 3 : 2;
        for (int count = 1; count <= MOST_TASTERS; count++) {
            if (power(places, count) >= wanted) {
                return count;
            }
        }
        return NONE;
    }

    public int row(int k) throws IndexOutOfBoundsException {
        if (k < 1 || k > MOST_TASTERS) {
            throw new IndexOutOfBoundsException("k is not 1 .. 26");
        }
        long all = power(3, k);
        for (int rights = 0; rights <= k; rights++) {
            if (20 * waysOfAtLeast(rights, k, 3) <= all) {
                return rights;
            }
        }
        return k + 1;
    }

    private Taster tasterAt(int taster) {
        return taster < 0 || taster >= MOST_TASTERS ? null : tasters[taster];
    }

    private Test testAt(int test) {
        return test < 0 || test >= MOST_TESTS ? null : tests[test];
    }

    private Test differenceAt(int test) {
        Test asked = testAt(test);
        return asked == null || asked.kind == RANKING ? null : asked;
    }

    private Test rankingAt(int test) {
        Test asked = testAt(test);
        return asked == null || asked.kind != RANKING ? null : asked;
    }

    private static boolean isKindOf(int kind, int samples) {
        switch (kind) {
            case TRIANGLE:
                return samples == 3;
            case PAIR:
            case DUO:
                return samples == 2;
            case RANKING:
                return samples >= 2 && samples <= MOST_SAMPLES;
            default:
                return false;
        }
    }

    private static boolean isPart(int part) {
        return part == ABOVE || part == BELOW;
    }

    private static int orderCount(Test of) {
        switch (of.kind) {
            case TRIANGLE:
                return 6;
            case PAIR:
                return 2;
            case DUO:
                return 4;
            default:
                return FACTORIALS[of.samples];
        }
    }

    // A taster's order hangs on its number alone, so all can be given before the tasters come.
    private void giveOrders(Test made, int number) {
        int count = orderCount(made);
        int block = 0;
        int place = 0;
        mixOrders(count, number, block);
        for (int taster = 0; taster < MOST_TASTERS; taster++) {
            if (place >= count) {
                block++;
                place = 0;
                mixOrders(count, number, block);
            }
            made.orders[taster] = mixed[place];
            place++;
        }
    }

    private void mixOrders(int count, int number, int block) {
        for (int i = 0; i < count; i++) {
            mixed[i] = i;
        }
        long h = seed + 1_000_003L * number + 7_919L * block;
        for (int i = count - 1; i >= 1; i--) {
            h = h * 6364136223846793005L + 1442695040888963407L;
            int other = (int) ((h >>> 33) % (i + 1));
            int kept = mixed[i];
            mixed[i] = mixed[other];
            mixed[other] = kept;
        }
    }

    private static int servings(Test of) {
        return of.kind == DUO ? 3 : of.samples;
    }

    private static int served(Test of, int order, int k) {
        switch (of.kind) {
            case TRIANGLE:
                return TRIANGLE_SERVED[order * 3 + k];
            case PAIR:
                return PAIR_SERVED[order * 2 + k];
            case DUO:
                return DUO_SERVED[order * 3 + k];
            default:
                return sampleInRow(of.samples, order, k);
        }
    }

    // The rows that share their first samples stand together: the number tells the samples one by one.
    private static int sampleInRow(int samples, int row, int k) {
        int used = 0;
        int rest = row;
        int sample = NONE;
        for (int place = 0; place <= k && place < samples; place++) {
            int together = FACTORIALS[samples - 1 - place];
            sample = unusedSample(used, rest / together);
            used |= 1 << sample;
            rest %= together;
        }
        return sample;
    }

    private static int unusedSample(int used, int before) {
        int left = before;
        for (int sample = 0; sample < MOST_SAMPLES; sample++) {
            if ((used >> sample & 1) == 0) {
                if (left == 0) {
                    return sample;
                }
                left--;
            }
        }
        return NONE;
    }

    private static int rightPlace(int kind, int order) {
        switch (kind) {
            case TRIANGLE:
                return TRIANGLE_RIGHT[order];
            case PAIR:
                return PAIR_RIGHT[order];
            default:
                return DUO_RIGHT[order];
        }
    }

    private static int rankOf(Test of, int taster, int sample) {
        return of.ranks[taster * MOST_SAMPLES + sample];
    }

    private static boolean hasGiven(Test of, int taster, int r) {
        for (int sample = 0; sample < of.samples; sample++) {
            if (rankOf(of, taster, sample) == r) {
                return true;
            }
        }
        return false;
    }

    private static boolean hasRankedAll(Test of, int taster) {
        for (int sample = 0; sample < of.samples; sample++) {
            if (rankOf(of, taster, sample) == 0) {
                return false;
            }
        }
        return true;
    }

    // Of all places^answers ways to guess, those with at least so many right.
    private static long waysOfAtLeast(int rights, int answers, int places) {
        long sum = 0;
        long ways = 1;
        for (int exactly = answers; exactly >= rights; exactly--) {
            sum += ways;
            // The next binomial is this one * exactly / (answers - exactly + 1), without a rest.
            ways = ways * exactly / (answers - exactly + 1) * (places - 1);
        }
        return sum;
    }

    // Of all samples^rankers rows of ranks, those whose sum is at least as far from the middle.
    private long waysAsFarAs(int sum, int rankers, int samples) {
        countSums(rankers, samples);
        // All is doubled, since the middle may be a half.
        int middle = rankers * (samples + 1);
        int far = Math.abs(2 * sum - middle);
        long ways = 0;
        for (int other = rankers; other <= rankers * samples; other++) {
            if (Math.abs(2 * other - middle) >= far) {
                ways += sumWays[other];
            }
        }
        return ways;
    }

    private void countSums(int rankers, int samples) {
        for (int sum = 0; sum < sumWays.length; sum++) {
            sumWays[sum] = 0;
        }
        sumWays[0] = 1;
        for (int ranker = 1; ranker <= rankers; ranker++) {
            // Downwards, so that the smaller sums are still those of one ranker fewer.
            for (int sum = ranker * samples; sum >= 0; sum--) {
                long ways = 0;
                for (int r = 1; r <= samples && r <= sum; r++) {
                    ways += sumWays[sum - r];
                }
                sumWays[sum] = ways;
            }
        }
    }

    private static double strength(int k) {
        return (1 << k) / 8.0;
    }

    private static long power(int base, int times) {
        long product = 1;
        for (int i = 0; i < times; i++) {
            product *= base;
        }
        return product;
    }

    private static long reducedPart(long above, long below, int part) {
        long divisor = commonDivisor(above, below);
        return (part == ABOVE ? above : below) / divisor;
    }

    // Two longs never need as many as 100 turns; the answer is at least 1 as long as below is.
    private static long commonDivisor(long above, long below) {
        long divisor = below;
        long rest = above;
        for (int turn = 0; turn < 100 && rest != 0; turn++) {
            long next = divisor % rest;
            divisor = rest;
            rest = next;
        }
        return divisor;
    }
}
