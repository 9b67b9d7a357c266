/** Promise 11: a taster found a step or did not, and the last word counts. */
public final class P11LevelTest {
    public static void main(String[] args) {
        Due due = new Due();
        steps(due);
        lastWord(due);
        wrongInputs(due);
        due.end();
    }

    private static void steps(Due due) {
        for (int taster = 0; taster < 26; taster++) {
            TasterPanels x = Due.panel(0, 26);
            for (int k = -2; k < 18; k++) {
                due.same("level(" + taster + ", " + k + ", ..)", x.level(taster, k, (k & 1) == 0), k >= 0 && k <= 15);
            }
        }
    }

    private static void lastWord(Due due) {
        TasterPanels x = Due.panel(0, 2);
        due.same("level(1, 4, true)", x.level(1, 4, true), true);
        due.same("found", x.threshold(1), 1.0);
        due.same("level(1, 4, false)", x.level(1, 4, false), true);
        due.same("then not", x.threshold(1), 4.0);
        due.same("level(1, 4, false)", x.level(1, 4, false), true);
        due.same("not, told twice", x.threshold(1), 4.0);
        due.same("level(1, 4, true)", x.level(1, 4, true), true);
        due.same("found again", x.threshold(1), 1.0);
        due.same("the other taster", x.threshold(0), 0.0);
    }

    private static void wrongInputs(Due due) {
        TasterPanels x = Due.panel(0, 2);
        for (int wrong : new int[] {-1, 2, 25, 26, Integer.MAX_VALUE, Integer.MIN_VALUE}) {
            due.same("level(" + wrong + ", 0, true)", x.level(wrong, 0, true), false);
        }
        for (int wrong : new int[] {-1, 16, 32, Integer.MAX_VALUE, Integer.MIN_VALUE}) {
            due.same("level(0, " + wrong + ", true)", x.level(0, wrong, true), false);
            due.same("level(0, " + wrong + ", false)", x.level(0, wrong, false), false);
        }
        due.same("what was refused is not told", x.threshold(0), 0.0);
        x.taster();
        due.same("nor of a taster that comes later", x.threshold(2), 0.0);
    }
}
