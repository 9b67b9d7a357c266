/** Promise 2: tasters are numbered from 0, and there are at most 26. */
public final class P02TasterTest {
    public static void main(String[] args) {
        Due due = new Due();
        TasterPanels x = new TasterPanels(0);
        for (int taster = 0; taster < 26; taster++) {
            due.same("threshold(" + taster + ") before", x.threshold(taster), -1.0);
            due.same("taster()", x.taster(), taster);
            due.same("threshold(" + taster + ") behind", x.threshold(taster), 0.0);
        }
        for (int more = 0; more < 5; more++) {
            due.same("taster() when full", x.taster(), TasterPanels.FULL);
        }
        due.same("threshold(25)", x.threshold(25), 0.0);
        due.same("threshold(26)", x.threshold(26), -1.0);
        due.same("test(1, 2)", x.test(1, 2), 0);
        due.same("the last taster answers", x.answer(0, 25, 0), true);
        due.same("a 27th does not", x.answer(0, 26, 0), false);
        due.end();
    }
}
