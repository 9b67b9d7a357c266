/** Promise 11: a taster found a step or did not, and the last word counts. */
public final class P11LevelTest {
    private static final String REFUSED = "False, refused, when there is no such taster or step";

    public static void main(String[] args) {
        Due.all(
            P11LevelTest::steps,
            P11LevelTest::lastWord,
            P11LevelTest::lastWordOfMany,
            P11LevelTest::noTaster,
            P11LevelTest::noStep,
            P11LevelTest::refusedTellsNothing,
            P11LevelTest::refusedTellsNoneThatComesLater);
    }

    private static void steps(Due due) {
        due.sentence("A taster found step k, or did not (told again the last word counts): true",
            "each of the steps 0 .. 15, found and not, told again");
        for (int taster : new int[] {0, 7, 25}) {
            TasterPanels x = Due.panel(0, 26);
            for (int k = 0; k < 16; k++) {
                due.same("level(" + taster + ", " + k + ", true)", x.level(taster, k, true), true);
                due.same("level(" + taster + ", " + k + ", false)", x.level(taster, k, false), true);
                due.same("level(" + taster + ", " + k + ", false) again", x.level(taster, k, false), true);
            }
        }
    }

    private static void lastWord(Due due) {
        due.sentence("told again the last word counts", "found, then not, then found, at both ends and between");
        for (int k : new int[] {0, 4, 15}) {
            double strength = (1 << k) / 8.0;
            TasterPanels x = Due.panel(0, 2);
            x.level(1, k, true);
            due.same("found", x.threshold(1), strength / 2);
            x.level(1, k, false);
            due.same("then not", x.threshold(1), strength * 2);
            x.level(1, k, false);
            due.same("not, told twice", x.threshold(1), strength * 2);
            x.level(1, k, true);
            due.same("found again", x.threshold(1), strength / 2);
            x.level(1, k, true);
            due.same("found, told twice", x.threshold(1), strength / 2);
            due.same("the other taster", x.threshold(0), 0.0);
        }
    }

    private static void lastWordOfMany(Due due) {
        due.sentence("told again the last word counts", "the words about other steps stay");
        TasterPanels x = Due.panel(0, 1);
        for (int k = 0; k < 16; k++) {
            x.level(0, k, false);
        }
        due.same("none found", x.threshold(0), 8192.0);
        for (int k = 15; k >= 1; k--) {
            x.level(0, k, true);
            due.same("found from " + k, x.threshold(0), ((1 << k) + (1 << k - 1)) / 16.0);
        }
        x.level(0, 0, true);
        due.same("all found", x.threshold(0), 0.0625);
        x.level(0, 15, false);
        due.same("but the highest", x.threshold(0), 8192.0);
    }

    private static void noTaster(Due due) {
        due.sentence(REFUSED, "no such taster: of none, of one, of seven, of 26");
        for (int made : new int[] {0, 1, 7, 26}) {
            TasterPanels x = Due.panel(0, made);
            for (int taster : Due.strangers(made, 26)) {
                due.same("level(" + taster + ", 0, true) of " + made, x.level(taster, 0, true), false);
                due.same("level(" + taster + ", 15, false) of " + made, x.level(taster, 15, false), false);
            }
            if (made > 0) {
                due.same("the last of " + made, x.level(made - 1, 15, false), true);
            }
        }
    }

    private static void noStep(Due due) {
        due.sentence(REFUSED, "no such step: below 0 and above 15");
        for (int taster : new int[] {0, 1, 25}) {
            TasterPanels x = Due.panel(0, 26);
            for (int k : Due.strangers(16, 16)) {
                due.same("level(" + taster + ", " + k + ", true)", x.level(taster, k, true), false);
                due.same("level(" + taster + ", " + k + ", false)", x.level(taster, k, false), false);
            }
            due.same("step 0", x.level(taster, 0, true), true);
            due.same("step 15", x.level(taster, 15, true), true);
        }
    }

    private static void refusedTellsNothing(Due due) {
        due.sentence("False, refused", "tells nothing of any taster");
        TasterPanels x = Due.panel(0, 26);
        x.level(1, 3, true);
        for (int wrong : Due.strangers(26, 26)) {
            x.level(wrong, 3, false);
            x.level(1, wrong, false);
        }
        x.level(1, 16, false);
        x.level(1, -1, false);
        for (int taster = 0; taster < 26; taster++) {
            due.same("threshold(" + taster + ")", x.threshold(taster), taster == 1 ? 0.5 : 0.0);
        }
    }

    private static void refusedTellsNoneThatComesLater(Due due) {
        due.sentence("False, refused", "tells nothing of a taster that comes later");
        TasterPanels x = Due.panel(0, 1);
        for (int taster = 1; taster < 26; taster++) {
            due.same("level(" + taster + ", 3, true) before it comes", x.level(taster, 3, true), false);
        }
        for (int taster = 1; taster < 26; taster++) {
            x.taster();
            due.same("threshold(" + taster + ")", x.threshold(taster), 0.0);
        }
    }
}
