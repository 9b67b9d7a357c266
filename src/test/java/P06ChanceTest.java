import java.math.BigInteger;

/** Promise 6: the chance, by guessing, of at least as many right answers. */
public final class P06ChanceTest {
    public static void main(String[] args) {
        Due due = new Due();
        // {kind, answers, rights}, above, below
        known(due, new int[] {0, 1, 0}, 1, 1);
        known(due, new int[] {0, 1, 1}, 1, 3);
        known(due, new int[] {0, 3, 2}, 7, 27);
        known(due, new int[] {0, 6, 3}, 233, 729);
        known(due, new int[] {0, 26, 0}, 1, 1);
        known(due, new int[] {0, 26, 1}, 2541798719465L, 2541865828329L);
        known(due, new int[] {0, 26, 13}, 148123058153L, 2541865828329L);
        known(due, new int[] {0, 26, 26}, 1, 2541865828329L);
        known(due, new int[] {1, 4, 2}, 11, 16);
        known(due, new int[] {1, 26, 1}, 67108863, 67108864);
        known(due, new int[] {1, 26, 13}, 9688683, 16777216);
        known(due, new int[] {2, 26, 26}, 1, 67108864);
        known(due, new int[] {2, 26, 0}, 1, 1);
        everyCount(due);
        wrongInputs(due);
        due.end();
    }

    private static TasterPanels answered(int kind, int answers, int rights) {
        TasterPanels x = Due.panel(31 * kind + answers, 26);
        x.test(kind, kind == 0 ? 3 : 2);
        for (int taster = 0; taster < answers; taster++) {
            Due.answer(x, 0, kind, taster, taster < rights);
        }
        return x;
    }

    private static void known(Due due, int[] of, long above, long below) {
        TasterPanels x = answered(of[0], of[1], of[2]);
        due.chance(x, 0, above, below);
        due.chance(x, 0, above, below);
    }

    private static void everyCount(Due due) {
        for (int kind = 0; kind < 3; kind++) {
            int places = kind == 0 ? 3 : 2;
            for (int answers = 1; answers <= 26; answers++) {
                BigInteger all = BigInteger.valueOf(places).pow(answers);
                for (int rights = 0; rights <= answers; rights++) {
                    BigInteger ways = Model.atLeast(rights, answers, places);
                    BigInteger divisor = ways.gcd(all);
                    due.chance(answered(kind, answers, rights), 0, ways.divide(divisor).longValueExact(), all.divide(divisor).longValueExact());
                }
            }
        }
    }

    private static void wrongInputs(Due due) {
        TasterPanels x = Due.panel(2, 3);
        x.test(0, 3);
        x.test(3, 3);
        x.test(1, 2);
        due.same("chance(0, 0) without answers", x.chance(0, 0), -1);
        due.same("chance(0, 1) without answers", x.chance(0, 1), -1);
        x.answer(0, 0, 0);
        x.rank(1, 0, 0, 1);
        for (int part : new int[] {-1, 2, Integer.MAX_VALUE, Integer.MIN_VALUE}) {
            due.same("chance(0, " + part + ")", x.chance(0, part), -1);
        }
        for (int test : new int[] {-1, 1, 2, 3, 39, 40, Integer.MAX_VALUE, Integer.MIN_VALUE}) {
            due.same("chance(" + test + ", 0)", x.chance(test, 0), -1);
            due.same("chance(" + test + ", 1)", x.chance(test, 1), -1);
        }
    }
}
