/** Promise 1: a new object has no tasters and no tests. */
public final class P01NewObjectTest {
    public static void main(String[] args) {
        Due due = new Due();
        for (long seed : new long[] {0, 5, -5, Long.MAX_VALUE, Long.MIN_VALUE}) {
            noTests(due, new TasterPanels(seed));
            noTasters(due, new TasterPanels(seed));
            TasterPanels x = new TasterPanels(seed);
            due.same("the first taster()", x.taster(), 0);
            due.same("the first test(0, 3)", x.test(0, 3), 0);
        }
        objectsAreApart(due);
        due.same("NONE", TasterPanels.NONE, -1);
        due.same("FULL", TasterPanels.FULL, -2);
        due.end();
    }

    private static void noTests(Due due, TasterPanels x) {
        x.taster();
        for (int test = -1; test <= 40; test++) {
            due.same("order(" + test + ", 0, 0)", x.order(test, 0, 0), -1);
            due.same("answer(" + test + ", 0, 0)", x.answer(test, 0, 0), false);
            due.same("chance(" + test + ", 0)", x.chance(test, 0), -1);
            due.same("right(" + test + ")", x.right(test), -1);
            due.same("rank(" + test + ", 0, 0, 1)", x.rank(test, 0, 0, 1), false);
            due.same("permuted(" + test + ", 0)", x.permuted(test, 0), -1);
        }
    }

    private static void noTasters(Due due, TasterPanels x) {
        x.test(0, 3);
        x.test(3, 3);
        for (int taster = -1; taster <= 26; taster++) {
            due.same("order(0, " + taster + ", 0)", x.order(0, taster, 0), -1);
            due.same("answer(0, " + taster + ", 0)", x.answer(0, taster, 0), false);
            due.same("rank(1, " + taster + ", 0, 1)", x.rank(1, taster, 0, 1), false);
            due.same("threshold(" + taster + ")", x.threshold(taster), -1.0);
            due.same("level(" + taster + ", 0, true)", x.level(taster, 0, true), false);
            due.same("out(" + taster + ")", x.out(taster), false);
        }
        due.same("right(0)", x.right(0), 0);
        due.same("chance(0, 0)", x.chance(0, 0), -1);
        due.same("permuted(1, 0)", x.permuted(1, 0), -1);
    }

    private static void objectsAreApart(Due due) {
        TasterPanels one = Due.panel(3, 2);
        one.test(1, 2);
        one.answer(0, 0, 0);
        TasterPanels two = Due.panel(3, 1);
        due.same("right(0) of another object", two.right(0), -1);
        due.same("taster() of another object", two.taster(), 1);
        two.test(1, 2);
        due.same("chance(0, 1) of another object", two.chance(0, 1), -1);
    }
}
