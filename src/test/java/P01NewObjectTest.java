/** Promise 1: a new object has no tasters and no tests. */
public final class P01NewObjectTest {
    private static final long[] SEEDS = {0, 5, -5, Long.MAX_VALUE, Long.MIN_VALUE};

    public static void main(String[] args) {
        Due.all(
            P01NewObjectTest::noTasters,
            P01NewObjectTest::noTests,
            P01NewObjectTest::noTastersForATest,
            P01NewObjectTest::noTestsForATaster,
            P01NewObjectTest::firstNumbers,
            P01NewObjectTest::objectsAreApart,
            P01NewObjectTest::constants);
    }

    private static void noTasters(Due due) {
        due.sentence("No tasters, no tests", "no number is a taster of a new object");
        for (long seed : SEEDS) {
            TasterPanels x = new TasterPanels(seed);
            for (int taster : Due.strangers(0, 26)) {
                due.same("threshold(" + taster + ")", x.threshold(taster), -1.0);
                due.same("level(" + taster + ", 0, true)", x.level(taster, 0, true), false);
                due.same("out(" + taster + ")", x.out(taster), false);
                due.same("threshold(" + taster + ") again", x.threshold(taster), -1.0);
            }
        }
    }

    private static void noTests(Due due) {
        due.sentence("No tasters, no tests", "no number is a test of a new object");
        for (long seed : SEEDS) {
            TasterPanels x = new TasterPanels(seed);
            for (int test : Due.strangers(0, 40)) {
                due.same("right(" + test + ")", x.right(test), -1);
                due.same("chance(" + test + ", 0)", x.chance(test, 0), -1);
                due.same("chance(" + test + ", 1)", x.chance(test, 1), -1);
                due.same("permuted(" + test + ", 0)", x.permuted(test, 0), -1);
                due.same("permuted(" + test + ", 1)", x.permuted(test, 1), -1);
                due.same("order(" + test + ", 0, 0)", x.order(test, 0, 0), -1);
                due.same("answer(" + test + ", 0, 0)", x.answer(test, 0, 0), false);
                due.same("rank(" + test + ", 0, 0, 1)", x.rank(test, 0, 0, 1), false);
            }
        }
    }

    private static void noTastersForATest(Due due) {
        due.sentence("No tasters, no tests", "tests alone make no tasters");
        TasterPanels x = new TasterPanels(1);
        x.test(0, 3);
        x.test(3, 3);
        for (int taster = -1; taster <= 26; taster++) {
            due.same("order(0, " + taster + ", 0)", x.order(0, taster, 0), -1);
            due.same("answer(0, " + taster + ", 0)", x.answer(0, taster, 0), false);
            due.same("rank(1, " + taster + ", 0, 1)", x.rank(1, taster, 0, 1), false);
            due.same("threshold(" + taster + ")", x.threshold(taster), -1.0);
        }
        due.same("right(0)", x.right(0), 0);
        due.same("chance(0, 0)", x.chance(0, 0), -1);
        due.same("permuted(1, 0)", x.permuted(1, 0), -1);
    }

    private static void noTestsForATaster(Due due) {
        due.sentence("No tasters, no tests", "tasters alone make no tests");
        TasterPanels x = Due.panel(1, 26);
        for (int test = -1; test <= 40; test++) {
            due.same("order(" + test + ", 0, 0)", x.order(test, 0, 0), -1);
            due.same("answer(" + test + ", 0, 0)", x.answer(test, 0, 0), false);
            due.same("rank(" + test + ", 0, 0, 1)", x.rank(test, 0, 0, 1), false);
            due.same("right(" + test + ")", x.right(test), -1);
        }
    }

    private static void firstNumbers(Due due) {
        due.sentence("No tasters, no tests", "so the first of each is number 0");
        for (long seed : SEEDS) {
            TasterPanels x = new TasterPanels(seed);
            due.same("the first taster()", x.taster(), 0);
            due.same("the first test(0, 3)", x.test(0, 3), 0);
        }
    }

    private static void objectsAreApart(Due due) {
        due.sentence("No tasters, no tests", "whatever another object has");
        TasterPanels one = Due.panel(3, 26);
        Due.tests(one, 40, 1, 2);
        one.answer(0, 0, 0);
        one.level(0, 0, true);
        TasterPanels two = new TasterPanels(3);
        due.same("threshold(0) of another object", two.threshold(0), -1.0);
        due.same("right(0) of another object", two.right(0), -1);
        due.same("taster() of another object", two.taster(), 0);
        due.same("test(1, 2) of another object", two.test(1, 2), 0);
        due.same("threshold(0), as nothing was told there", two.threshold(0), 0.0);
        due.same("chance(0, 1), as nothing was answered there", two.chance(0, 1), -1);
        due.same("answer(0, 0, 0) there", two.answer(0, 0, 0), true);
        due.same("a taster of the first object", one.taster(), TasterPanels.FULL);
        due.same("a test of the first object", one.test(1, 2), TasterPanels.FULL);
    }

    private static void constants(Due due) {
        due.sentence("public static final int NONE = -1;", "and FULL");
        due.same("NONE", TasterPanels.NONE, -1);
        due.same("FULL", TasterPanels.FULL, -2);
    }
}
