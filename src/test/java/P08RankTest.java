/** Promise 8: a taster gives each sample of a ranking one rank, and each rank once. */
public final class P08RankTest {
    public static void main(String[] args) {
        Due due = new Due();
        for (int samples = 2; samples <= 5; samples++) {
            ranges(due, samples);
            once(due, samples);
        }
        wrongInputs(due);
        due.end();
    }

    private static void ranges(Due due, int samples) {
        for (int sample = -2; sample < 8; sample++) {
            for (int r = -2; r < 8; r++) {
                TasterPanels x = Due.panel(0, 1);
                x.test(3, samples);
                boolean good = sample >= 0 && sample < samples && r >= 1 && r <= samples;
                due.same("rank(0, 0, " + sample + ", " + r + ") of " + samples, x.rank(0, 0, sample, r), good);
            }
        }
    }

    private static void once(Due due, int samples) {
        TasterPanels x = Due.panel(0, 26);
        x.test(3, samples);
        x.test(3, samples);
        for (int taster : new int[] {0, 1, 25}) {
            for (int sample = 0; sample < samples; sample++) {
                int own = samples - sample;
                for (int taken = samples; taken > own; taken--) {
                    due.same("rank " + taken + " given before", x.rank(0, taster, sample, taken), false);
                }
                due.same("rank " + own + " of sample " + sample, x.rank(0, taster, sample, own), true);
                for (int r = 1; r <= samples; r++) {
                    due.same("sample " + sample + " ranked before", x.rank(0, taster, sample, r), false);
                }
            }
        }
        due.same("another taster", x.rank(0, 2, 0, samples), true);
        due.same("another ranking", x.rank(1, 0, 0, samples), true);
    }

    private static void wrongInputs(Due due) {
        TasterPanels x = Due.panel(0, 2);
        x.test(3, 5);
        x.test(0, 3);
        x.test(1, 2);
        x.test(2, 2);
        int[] odd = {Integer.MAX_VALUE, Integer.MIN_VALUE};
        for (int wrong : new int[] {-1, 1, 2, 3, 4, 39, 40, odd[0], odd[1]}) {
            due.same("rank(" + wrong + ", 0, 0, 1)", x.rank(wrong, 0, 0, 1), false);
        }
        for (int wrong : new int[] {-1, 2, 25, 26, odd[0], odd[1]}) {
            due.same("rank(0, " + wrong + ", 0, 1)", x.rank(0, wrong, 0, 1), false);
        }
        for (int wrong : odd) {
            due.same("rank(0, 0, " + wrong + ", 1)", x.rank(0, 0, wrong, 1), false);
            due.same("rank(0, 0, 0, " + wrong + ")", x.rank(0, 0, 0, wrong), false);
        }
        due.same("what was refused takes nothing", x.rank(0, 0, 0, 1), true);
    }
}
