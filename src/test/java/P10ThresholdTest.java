/** Promise 10: the threshold of a taster. */
public final class P10ThresholdTest {
    public static void main(String[] args) {
        Due.all(
            P10ThresholdTest::strengths,
            P10ThresholdTest::nothingTold,
            P10ThresholdTest::highestNotFound,
            P10ThresholdTest::leastFound,
            P10ThresholdTest::nextTold,
            P10ThresholdTest::noneBelow,
            P10ThresholdTest::everyRow,
            P10ThresholdTest::tastersAreApart,
            P10ThresholdTest::noTaster);
    }

    private static void strengths(Due due) {
        due.sentence("Step k, 0 .. 15, has the strength 2^k / 8", "each step alone, found and not");
        double strength = 0.125;
        for (int k = 0; k < 16; k++) {
            TasterPanels x = Due.panel(0, 2);
            x.level(0, k, true);
            x.level(1, k, false);
            due.same("step " + k + " found", x.threshold(0), strength / 2);
            due.same("step " + k + " not found", x.threshold(1), strength * 2);
            strength *= 2;
        }
        due.same("the strength of a step 16", strength, 8192.0);
    }

    /** A step's sign stands at its place from step 0: + found, - not found, . not told. */
    private static void told(Due due, String row, double want) {
        TasterPanels upwards = Due.panel(0, 3);
        TasterPanels downwards = Due.panel(0, 3);
        for (int k = 0; k < 16; k++) {
            if (row.charAt(k) != '.') {
                upwards.level(1, k, row.charAt(k) == '+');
            }
            if (row.charAt(15 - k) != '.') {
                downwards.level(1, 15 - k, row.charAt(15 - k) == '+');
            }
        }
        due.same("threshold of " + row, upwards.threshold(1), want);
        due.same("threshold of " + row + ", told from above", downwards.threshold(1), want);
    }

    private static void nothingTold(Due due) {
        due.sentence("Nothing told: 0", "of a new taster, and of one of whom all was refused");
        TasterPanels x = Due.panel(0, 26);
        for (int taster = 0; taster < 26; taster++) {
            due.same("threshold(" + taster + ")", x.threshold(taster), 0.0);
            x.level(taster, -1, true);
            x.level(taster, 16, false);
            due.same("threshold(" + taster + ") behind what was refused", x.threshold(taster), 0.0);
        }
    }

    private static void highestNotFound(Due due) {
        due.sentence("The highest step told not found: twice its strength", "alone, above found ones, above all, at both ends");
        told(due, "-...............", 0.25);
        told(due, "...............-", 8192.0);
        told(due, "----------------", 8192.0);
        told(due, "+-..............", 0.5);
        told(due, "+++++++++++++++-", 8192.0);
        told(due, "+..............-", 8192.0);
        told(due, "+-+-+-+-+-+-+-+-", 8192.0);
        told(due, "+.-...++-.......", 64.0);
        told(due, "..............+-", 8192.0);
    }

    private static void leastFound(Due due) {
        due.sentence("Otherwise k is the least step told that was found, with all that were told above it",
            "found ones below a step not found do not count");
        told(due, "-+..............", 0.1875);
        told(due, "+-+.............", 0.375);
        told(due, "+.-...+.........", 4.25);
        told(due, "+.-..+.++.......", 2.25);
        told(due, "++++++++++++++-+", 3072.0);
        told(due, "-+-+-+-+-+-+-+-+", 3072.0);
        told(due, "-+++++++++++++++", 0.1875);
        told(due, "+-++++++++++++++", 0.375);
    }

    private static void nextTold(Due due) {
        due.sentence("the middle of its strength and that of the next step told below it", "steps that were not told are passed over");
        told(due, "..-...+.........", 4.25);
        told(due, "-..............+", 2048.0625);
        told(due, "..............-+", 3072.0);
        told(due, "--.............+", 2048.125);
        told(due, "-.-.+.+.........", 1.25);
        told(due, "-..-.....+......", 32.5);
    }

    private static void noneBelow(Due due) {
        due.sentence("or half of its strength when there is none", "all that was told was found");
        told(due, "+...............", 0.0625);
        told(due, "...............+", 2048.0);
        told(due, "++++++++++++++++", 0.0625);
        told(due, "..+..+.++.......", 0.25);
        told(due, ".+.............+", 0.125);
        told(due, "..............++", 1024.0);
    }

    private static void everyRow(Due due) {
        due.sentence("The threshold of a taster", "all that can be told of steps 0, 1, 2, 6, 14 and 15");
        int[] steps = {0, 1, 2, 6, 14, 15};
        for (int row = 0; row < 729; row++) {
            TasterPanels x = Due.panel(0, 1);
            Model m = new Model(0);
            m.taster();
            for (int i = 0, rest = row; i < 6; i++, rest /= 3) {
                if (rest % 3 > 0) {
                    x.level(0, steps[i], rest % 3 == 1);
                    m.level(0, steps[i], rest % 3 == 1);
                }
            }
            due.same("threshold of row " + row, x.threshold(0), m.threshold(0));
        }
    }

    private static void tastersAreApart(Due due) {
        due.sentence("The threshold of a taster", "what was told of others does not count");
        TasterPanels x = Due.panel(0, 26);
        x.level(0, 0, false);
        x.level(25, 15, true);
        x.level(13, 3, true);
        for (int taster = 0; taster < 26; taster++) {
            double want = taster == 0 ? 0.25 : taster == 25 ? 2048.0 : taster == 13 ? 0.5 : 0.0;
            due.same("threshold(" + taster + ")", x.threshold(taster), want);
        }
    }

    private static void noTaster(Due due) {
        due.sentence("-1 when there is no such taster", "of none, of one, of seven, of 26");
        for (int made : new int[] {0, 1, 7, 26}) {
            TasterPanels x = Due.panel(0, made);
            for (int taster : Due.strangers(made, 26)) {
                due.same("threshold(" + taster + ") of " + made, x.threshold(taster), -1.0);
            }
            if (made > 0) {
                due.same("the last of " + made, x.threshold(made - 1), 0.0);
            }
        }
    }
}
