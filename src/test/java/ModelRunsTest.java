import java.util.Random;

/** Long runs of calls, all promises mixed: the class has to answer as the model does. */
public final class ModelRunsTest {
    private static final long[] SEEDS = {0, 1, -1, 42, 1L << 40, Long.MAX_VALUE, Long.MIN_VALUE};

    private final Due due = new Due();
    private final Random random = new Random(20261115);
    private TasterPanels x;
    private Model m;
    private int tasters;
    private int tests;

    public static void main(String[] args) {
        ModelRunsTest runs = new ModelRunsTest();
        runs.due.sentence("An object is used for at most 512 calls after it has been made", "400 runs of 512 calls");
        for (int run = 0; run < 400; run++) {
            runs.run(run < SEEDS.length ? SEEDS[run] : runs.random.nextLong(), run);
        }
        runs.due.end();
    }

    private void run(long seed, int run) {
        x = new TasterPanels(seed);
        m = new Model(seed);
        tasters = 0;
        tests = 0;
        // Some runs begin with few, some with all; the others come in between.
        int first = run % 3 == 0 ? 0 : random.nextInt(27);
        int begun = 1 + random.nextInt(run % 2 == 0 ? 3 : 12);
        for (int i = 0; i < first; i++) {
            makeTaster();
        }
        for (int i = 0; i < begun; i++) {
            makeTest();
        }
        int calls = first + begun;
        // What is answered behind the 512th call is free.
        while (calls < 512) {
            calls += call(512 - calls);
        }
    }

    /** About 0 .. n - 1, now and then a wrong one. */
    private int near(int n) {
        int draw = random.nextInt(40);
        if (draw == 0) {
            return random.nextInt();
        }
        return draw == 1 ? -1 : draw == 2 ? n : random.nextInt(Math.max(1, n));
    }

    private void makeTaster() {
        due.same("taster()", x.taster(), m.taster());
        tasters = Math.min(26, tasters + 1);
    }

    private void makeTest() {
        int kind = near(4);
        int samples = kind == 0 ? 3 : kind == 3 ? 2 + random.nextInt(4) : 2;
        if (random.nextInt(10) == 0) {
            samples = near(7);
        }
        int made = m.test(kind, samples);
        due.same("test(" + kind + ", " + samples + ")", x.test(kind, samples), made);
        tests = Math.max(tests, made + 1);
    }

    private int call(int left) {
        int test = near(tests);
        int taster = near(tasters);
        int part = near(2);
        String two = "(" + test + ", " + taster + ", ";
        switch (random.nextInt(16)) {
            case 0:
                if (random.nextInt(2) == 0) {
                    makeTaster();
                } else {
                    makeTest();
                }
                return 1;
            case 1:
                int k = near(5);
                due.same("order" + two + k + ")", x.order(test, taster, k), m.order(test, taster, k));
                return 1;
            case 2, 3, 4, 5:
                int choice = near(3);
                due.same("answer" + two + choice + ")", x.answer(test, taster, choice), m.answer(test, taster, choice));
                return 1;
            case 6:
                due.same("chance(" + test + ", " + part + ")", x.chance(test, part), m.chance(test, part));
                return 1;
            case 7:
                due.same("right(" + test + ")", x.right(test), m.right(test));
                return 1;
            case 8, 9:
                return rankSome(test, taster, left);
            case 10:
                due.same("permuted(" + test + ", " + part + ")", x.permuted(test, part), m.permuted(test, part));
                return 1;
            case 11:
                due.same("threshold(" + taster + ")", x.threshold(taster), m.threshold(taster));
                return 1;
            case 12:
                int step = near(16);
                boolean found = random.nextInt(3) > 0;
                due.same("level(" + taster + ", " + step + ", " + found + ")", x.level(taster, step, found), m.level(taster, step, found));
                return 1;
            case 13:
                due.same("out(" + taster + ")", x.out(taster), m.out(taster));
                return 1;
            case 14:
                int kind = near(4);
                long above = random.nextLong() >>> random.nextInt(64);
                long below = random.nextLong() >>> random.nextInt(64);
                due.same("size(" + kind + ", " + above + ", " + below + ")", x.size(kind, above, below), m.size(kind, above, below));
                return 1;
            default:
                int answers = near(28);
                due.same("row(" + answers + ")", row(answers), m.row(answers));
                return 1;
        }
    }

    private int row(int k) {
        try {
            return x.row(k);
        } catch (IndexOutOfBoundsException e) {
            return -3;
        }
    }

    /** One rank, or a whole row of them, so that some tasters rank all. */
    private int rankSome(int test, int taster, int left) {
        int samples = Math.max(2, served(test));
        int turns = random.nextInt(2) == 0 || samples > left ? 1 : samples;
        int shift = random.nextInt(samples);
        for (int i = 0; i < turns; i++) {
            int sample = turns == 1 ? near(samples) : i;
            int r = turns == 1 ? 1 + near(samples) : 1 + (i + shift) % samples;
            due.same("rank(" + test + ", " + taster + ", " + sample + ", " + r + ")",
                x.rank(test, taster, sample, r), m.rank(test, taster, sample, r));
        }
        return turns;
    }

    private int served(int test) {
        int k = 0;
        while (m.order(test, 0, k) >= 0) {
            k++;
        }
        return k;
    }
}
