/** Promise 3: tests are numbered from 0, at most 40, and refused for a wrong kind or number of samples. */
public final class P03TestTest {
    private static final int[][] GOOD = {{0, 3}, {1, 2}, {2, 2}, {3, 2}, {3, 3}, {3, 4}, {3, 5}};

    public static void main(String[] args) {
        Due.all(
            P03TestTest::numbers,
            P03TestTest::kinds,
            due -> samples(due, 0, 3, 3, "samples is not 3 for a triangle", "too few, too many"),
            due -> samples(due, 1, 2, 2, "2 for a pair or a duo", "a pair with too few, too many"),
            due -> samples(due, 2, 2, 2, "2 for a pair or a duo", "a duo with too few, too many"),
            due -> samples(due, 3, 2, 5, "2 .. 5 for a ranking", "too few, too many, and each number between"),
            P03TestTest::refusedTakesNoNumber,
            P03TestTest::refusedIsNoTest,
            P03TestTest::full,
            P03TestTest::fullAddsNone,
            P03TestTest::fullChangesNothing,
            P03TestTest::refusedThoughFull,
            P03TestTest::fullOfTasters);
    }

    private static void numbers(Due due) {
        due.sentence("A test: its number", "from 0 to 39, each kind, each there as soon as it is made");
        TasterPanels x = Due.panel(0, 1);
        for (int test = 0; test < 40; test++) {
            int[] of = GOOD[test % GOOD.length];
            due.same("order(" + test + ", 0, 0) before", x.order(test, 0, 0), -1);
            due.same("test(" + of[0] + ", " + of[1] + ")", x.test(of[0], of[1]), test);
            due.same("order(" + test + ", 0, 0) behind", x.order(test, 0, 0) >= 0, true);
            due.same("right(" + test + ")", x.right(test), of[0] == 3 ? -1 : 0);
        }
    }

    private static void kinds(Due due) {
        due.sentence("NONE, refused, when kind is not 0 .. 3", "below 0 and above 3, whatever the samples");
        TasterPanels x = new TasterPanels(9);
        for (int kind : new int[] {Due.LOWEST, Due.LOWEST + 3, -4, -3, -2, -1, 4, 5, 6, 256, 1 << 16, Due.HIGHEST}) {
            for (int samples = 0; samples < 7; samples++) {
                due.same("test(" + kind + ", " + samples + ")", x.test(kind, samples), TasterPanels.NONE);
            }
        }
        due.same("test(0, 3)", x.test(0, 3), 0);
        due.same("test(3, 2)", x.test(3, 2), 1);
    }

    private static void samples(Due due, int kind, int fewest, int most, String words, String which) {
        due.sentence(words, which);
        TasterPanels x = new TasterPanels(9);
        int made = 0;
        for (int samples = -10; samples < 20; samples++) {
            int want = samples >= fewest && samples <= most ? made++ : TasterPanels.NONE;
            due.same("test(" + kind + ", " + samples + ")", x.test(kind, samples), want);
        }
        for (int samples : new int[] {Due.LOWEST, Due.LOWEST + fewest, 256 + fewest, (1 << 16) + fewest, Due.HIGHEST}) {
            due.same("test(" + kind + ", " + samples + ")", x.test(kind, samples), TasterPanels.NONE);
        }
        due.same("made", made, most - fewest + 1);
    }

    private static void refusedTakesNoNumber(Due due) {
        due.sentence("NONE, refused", "takes no number");
        TasterPanels x = new TasterPanels(0);
        for (int test = 0; test < 40; test++) {
            due.same("test(2, 3)", x.test(2, 3), TasterPanels.NONE);
            due.same("test(-1, 3)", x.test(-1, 3), TasterPanels.NONE);
            due.same("test(2, 2)", x.test(2, 2), test);
            due.same("test(3, 1)", x.test(3, 1), TasterPanels.NONE);
        }
    }

    private static void refusedIsNoTest(Due due) {
        due.sentence("NONE, refused", "is no test, and changes none");
        TasterPanels x = Due.panel(0, 1);
        x.test(0, 3);
        Due.answer(x, 0, 0, 0, true);
        String served = Due.servings(x, 0, 0, false);
        x.test(0, 2);
        x.test(3, 6);
        x.test(4, 3);
        due.same("right(1)", x.right(1), -1);
        due.same("order(1, 0, 0)", x.order(1, 0, 0), -1);
        due.same("answer(1, 0, 0)", x.answer(1, 0, 0), false);
        due.same("rank(1, 0, 0, 1)", x.rank(1, 0, 0, 1), false);
        due.same("right(0)", x.right(0), 1);
        due.same("what taster 0 is served", Due.servings(x, 0, 0, false), served);
        due.chance(x, 0, 1, 3);
    }

    private static void full(Due due) {
        due.sentence("FULL", "the 41st test of any kind, and every one behind it");
        for (int[] of : GOOD) {
            TasterPanels x = new TasterPanels(0);
            Due.tests(x, 39, 1, 2);
            due.same("the 40th test", x.test(of[0], of[1]), 39);
            for (int more = 41; more < 100; more++) {
                due.same("test number " + more, x.test(of[0], of[1]), TasterPanels.FULL);
            }
        }
    }

    private static void fullAddsNone(Due due) {
        due.sentence("FULL", "what was refused is no test");
        TasterPanels x = Due.panel(0, 1);
        Due.tests(x, 39, 3, 2);
        x.test(0, 3);
        Due.tests(x, 5, 0, 3);
        for (int none = 40; none < 45; none++) {
            due.same("right(" + none + ")", x.right(none), -1);
            due.same("order(" + none + ", 0, 0)", x.order(none, 0, 0), -1);
            due.same("answer(" + none + ", 0, 0)", x.answer(none, 0, 0), false);
        }
        due.same("answer(39, 0, 0)", x.answer(39, 0, 0), true);
    }

    private static void fullChangesNothing(Due due) {
        due.sentence("FULL", "the 40 stay as they are");
        TasterPanels x = Due.panel(0, 1);
        Due.tests(x, 40, 1, 2);
        StringBuilder before = new StringBuilder();
        for (int test = 0; test < 40; test++) {
            Due.answer(x, test, 1, 0, test % 2 == 0);
            before.append(x.order(test, 0, 0));
        }
        Due.tests(x, 10, 3, 5);
        for (int test = 0; test < 40; test++) {
            due.same("right(" + test + ")", x.right(test), test % 2 == 0 ? 1 : 0);
            due.same("order(" + test + ", 0, 0)", x.order(test, 0, 0), before.charAt(test) - '0');
        }
    }

    /** The document names the refusal first, so it goes before FULL. */
    private static void refusedThoughFull(Due due) {
        due.sentence("NONE, refused, when kind is not 0 .. 3", "also when there can be no test more");
        TasterPanels x = new TasterPanels(0);
        Due.tests(x, 40, 2, 2);
        due.same("test(4, 2)", x.test(4, 2), TasterPanels.NONE);
        due.same("test(-1, 2)", x.test(-1, 2), TasterPanels.NONE);
        due.same("test(0, 2)", x.test(0, 2), TasterPanels.NONE);
        due.same("test(1, 3)", x.test(1, 3), TasterPanels.NONE);
        due.same("test(2, 1)", x.test(2, 1), TasterPanels.NONE);
        due.same("test(3, 1)", x.test(3, 1), TasterPanels.NONE);
        due.same("test(3, 6)", x.test(3, 6), TasterPanels.NONE);
        due.same("test(3, 5)", x.test(3, 5), TasterPanels.FULL);
    }

    private static void fullOfTasters(Due due) {
        due.sentence("A test: its number", "also when there can be no taster more");
        TasterPanels x = Due.panel(0, 27);
        for (int test = 0; test < 40; test++) {
            due.same("test(3, 5)", x.test(3, 5), test);
        }
        due.same("the 41st test", x.test(3, 5), TasterPanels.FULL);
    }
}
