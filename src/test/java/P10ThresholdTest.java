/** Promise 10: the threshold of a taster. */
public final class P10ThresholdTest {
    public static void main(String[] args) {
        Due due = new Due();
        oneStep(due);
        // A step's sign stands at its place from step 0: + found, - not found, . not told.
        told(due, "................", 0.0);
        told(due, "++++++++++++++++", 0.0625);
        told(due, "----------------", 8192.0);
        told(due, "-+..............", 0.1875);
        told(due, "+-..............", 0.5);
        told(due, "..-...+.........", 4.25);
        told(due, "+.-...+.........", 4.25);
        told(due, "+.-...++-.......", 64.0);
        told(due, "+.-..+.++.......", 2.25);
        told(due, "..+..+.++.......", 0.25);
        told(due, "-..............+", 2048.0625);
        told(due, "+..............-", 8192.0);
        told(due, "+-+-+-+-+-+-+-+-", 8192.0);
        told(due, "-+-+-+-+-+-+-+-+", 3072.0);
        everyRow(due);
        wrongInputs(due);
        due.end();
    }

    private static void oneStep(Due due) {
        double strength = 0.125;
        for (int k = 0; k < 16; k++) {
            TasterPanels x = Due.panel(0, 2);
            x.level(0, k, true);
            x.level(1, k, false);
            due.same("step " + k + " found", x.threshold(0), strength / 2);
            due.same("step " + k + " not found", x.threshold(1), strength * 2);
            strength *= 2;
        }
    }

    private static void told(Due due, String row, double want) {
        TasterPanels x = Due.panel(0, 3);
        for (int k = 0; k < 16; k++) {
            if (row.charAt(k) != '.') {
                x.level(1, k, row.charAt(k) == '+');
            }
        }
        due.same("threshold of " + row, x.threshold(1), want);
        due.same("threshold of another", x.threshold(0), 0.0);
    }

    /** All that can be told of steps 0, 1, 2, 6, 14 and 15. */
    private static void everyRow(Due due) {
        int[] steps = {0, 1, 2, 6, 14, 15};
        for (int row = 0; row < 729; row++) {
            TasterPanels x = Due.panel(0, 1);
            Model m = new Model(0);
            m.taster();
            for (int i = 0, rest = row; i < 6; i++, rest /= 3) {
                if (rest % 3 > 0) {
                    x.level(0, steps[i], rest % 3 == 1);
                    m.level(0, steps[i], rest % 3 == 1);
                }
            }
            due.same("threshold of row " + row, x.threshold(0), m.threshold(0));
        }
    }

    private static void wrongInputs(Due due) {
        TasterPanels x = Due.panel(0, 3);
        for (int wrong : new int[] {-1, 3, 25, 26, Integer.MAX_VALUE, Integer.MIN_VALUE}) {
            due.same("threshold(" + wrong + ")", x.threshold(wrong), -1.0);
        }
    }
}
