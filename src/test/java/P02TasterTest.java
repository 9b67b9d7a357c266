/** Promise 2: tasters are numbered from 0, and there are at most 26. */
public final class P02TasterTest {
    public static void main(String[] args) {
        Due.all(
            P02TasterTest::numbers,
            P02TasterTest::full,
            P02TasterTest::fullAddsNone,
            P02TasterTest::fullChangesNothing,
            P02TasterTest::fullOfTests);
    }

    private static void numbers(Due due) {
        due.sentence("A taster: its number", "from 0 to 25, each there as soon as it is made");
        TasterPanels x = new TasterPanels(0);
        for (int taster = 0; taster < 26; taster++) {
            due.same("threshold(" + taster + ") before", x.threshold(taster), -1.0);
            due.same("taster()", x.taster(), taster);
            due.same("threshold(" + taster + ") behind", x.threshold(taster), 0.0);
        }
    }

    private static void full(Due due) {
        due.sentence("FULL", "the 27th taster, and every one behind it");
        TasterPanels x = Due.panel(0, 25);
        due.same("the 26th taster()", x.taster(), 25);
        for (int more = 27; more < 500; more++) {
            due.same("taster() number " + more, x.taster(), TasterPanels.FULL);
        }
    }

    private static void fullAddsNone(Due due) {
        due.sentence("FULL", "what was refused is no taster");
        TasterPanels x = Due.panel(0, 30);
        x.test(1, 2);
        x.test(3, 2);
        for (int none = 26; none < 30; none++) {
            due.same("threshold(" + none + ")", x.threshold(none), -1.0);
            due.same("level(" + none + ", 0, true)", x.level(none, 0, true), false);
            due.same("order(0, " + none + ", 0)", x.order(0, none, 0), -1);
            due.same("answer(0, " + none + ", 0)", x.answer(0, none, 0), false);
            due.same("rank(1, " + none + ", 0, 1)", x.rank(1, none, 0, 1), false);
            due.same("out(" + none + ")", x.out(none), false);
        }
    }

    private static void fullChangesNothing(Due due) {
        due.sentence("FULL", "the 26 stay as they are");
        TasterPanels x = Due.panel(0, 26);
        x.test(1, 2);
        for (int taster = 0; taster < 26; taster++) {
            x.level(taster, 3, true);
            x.answer(0, taster, 0);
        }
        int rights = x.right(0);
        for (int more = 0; more < 30; more++) {
            x.taster();
        }
        for (int taster = 0; taster < 26; taster++) {
            due.same("threshold(" + taster + ")", x.threshold(taster), 0.5);
            due.same("answer(0, " + taster + ", 0) again", x.answer(0, taster, 0), false);
        }
        due.same("right(0)", x.right(0), rights);
    }

    private static void fullOfTests(Due due) {
        due.sentence("A taster: its number", "also when there can be no test more");
        TasterPanels x = new TasterPanels(0);
        Due.tests(x, 41, 1, 2);
        for (int taster = 0; taster < 26; taster++) {
            due.same("taster()", x.taster(), taster);
        }
        due.same("the 27th taster()", x.taster(), TasterPanels.FULL);
    }
}
