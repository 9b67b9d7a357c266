import java.util.Arrays;
import java.util.HashSet;
import java.util.Set;

/** What stands above the promises: how long an object is used, and the terms. */
public final class P00TermsTest {
    private static final int[][] TESTS = {{0, 3}, {1, 2}, {2, 2}, {3, 2}, {3, 3}, {3, 4}, {3, 5}};
    private static final int[] ORDERS = {6, 2, 4, 2, 6, 24, 120};

    // Seeds that leave the orders of test 0 in the first block by their numbers: found by another program.
    private static final long SIX_UNMIXED = 413;
    private static final long TWO_UNMIXED = 0;
    private static final long FOUR_UNMIXED = 6;

    public static void main(String[] args) {
        Due.all(
            P00TermsTest::lastCall,
            P00TermsTest::lastOfManyAnswers,
            P00TermsTest::tasters,
            P00TermsTest::tests,
            P00TermsTest::triangle,
            P00TermsTest::pair,
            P00TermsTest::duo,
            P00TermsTest::ranking,
            P00TermsTest::orders,
            P00TermsTest::dictionary,
            P00TermsTest::firstAndLastRows,
            P00TermsTest::blocks,
            P00TermsTest::fullBlocks,
            P00TermsTest::lastBlock,
            P00TermsTest::wrapAtTests,
            P00TermsTest::wrapAtBlocks,
            P00TermsTest::wrapInTheMixing,
            P00TermsTest::rightOfATriangle,
            P00TermsTest::rightOfAPair,
            P00TermsTest::rightOfADuo,
            P00TermsTest::reduced,
            P00TermsTest::wholeChance);
    }

    /** 511 calls behind it, 11 that make something and 500 that ask. */
    private static TasterPanels old() {
        TasterPanels x = Due.panel(SIX_UNMIXED, 3);
        x.test(0, 3);
        x.test(1, 2);
        x.test(3, 3);
        x.level(0, 3, true);
        x.answer(0, 0, 2);
        Due.rankAll(x, 2, 0, 3, 1);
        for (int i = 0; i < 100; i++) {
            x.right(0);
            x.threshold(0);
            x.permuted(2, 0);
            x.size(0, 1, 20);
            x.row(26);
        }
        return x;
    }

    private static void lastCall(Due due) {
        due.sentence("An object is used for at most 512 calls after it has been made", "the 512th call answers as due");
        due.same("taster()", old().taster(), 3);
        due.same("test(3, 5)", old().test(3, 5), 3);
        due.same("test(3, 6)", old().test(3, 6), -1);
        due.same("order(0, 2, 0)", old().order(0, 2, 0), 1);
        due.same("order(3, 0, 0)", old().order(3, 0, 0), -1);
        due.same("answer(0, 2, 0)", old().answer(0, 2, 0), true);
        due.same("answer(0, 0, 0)", old().answer(0, 0, 0), false);
        due.same("chance(0, 1)", old().chance(0, 1), 3);
        due.same("right(0)", old().right(0), 1);
        due.same("rank(2, 1, 0, 1)", old().rank(2, 1, 0, 1), true);
        due.same("rank(2, 0, 0, 1)", old().rank(2, 0, 0, 1), false);
        due.same("permuted(2, 1)", old().permuted(2, 1), 3);
        due.same("threshold(0)", old().threshold(0), 0.5);
        due.same("level(0, 15, false)", old().level(0, 15, false), true);
        due.same("level(0, 16, false)", old().level(0, 16, false), false);
        due.same("out(0)", old().out(0), false);
        due.same("size(0, 1, 20)", old().size(0, 1, 20), 3);
        due.same("row(26)", old().row(26), 14);
        due.same("row(27)", P14RowTest.thrown(old(), 27), "IndexOutOfBoundsException");
    }

    /** 26 tasters, 18 pairs and as many answers as there can be: 512 calls. */
    private static void lastOfManyAnswers(Due due) {
        due.sentence("An object is used for at most 512 calls after it has been made", "the last of 468 answers counts");
        TasterPanels x = Due.panel(5, 26);
        Due.tests(x, 18, 1, 2);
        for (int i = 0; i < 467; i++) {
            due.same("answer " + i, x.answer(i / 26, i % 26, 0), true);
        }
        due.same("the 512th call", x.answer(17, 25, 0), true);
    }

    private static void tasters(Due due) {
        due.sentence("TASTERS are numbered from 0, at most 26", "0 is the first, 25 the last, -1 and 26 are none");
        TasterPanels x = Due.panel(1, 26);
        due.same("threshold(-1)", x.threshold(-1), -1.0);
        due.same("threshold(0)", x.threshold(0), 0.0);
        due.same("threshold(25)", x.threshold(25), 0.0);
        due.same("threshold(26)", x.threshold(26), -1.0);
        due.same("a 27th", x.taster(), TasterPanels.FULL);
        due.same("threshold(26) behind it", x.threshold(26), -1.0);
    }

    private static void tests(Due due) {
        due.sentence("TESTS from 0, at most 40", "0 is the first, 39 the last, -1 and 40 are none");
        TasterPanels x = new TasterPanels(1);
        Due.tests(x, 40, 0, 3);
        due.same("right(-1)", x.right(-1), -1);
        due.same("right(0)", x.right(0), 0);
        due.same("right(39)", x.right(39), 0);
        due.same("right(40)", x.right(40), -1);
        due.same("a 41st", x.test(0, 3), TasterPanels.FULL);
        due.same("right(40) behind it", x.right(40), -1);
    }

    private static void triangle(Due due) {
        due.sentence("0 a TRIANGLE (3 samples served, of two kinds A and B, one of them odd)", "three, and one of them odd");
        TasterPanels x = Due.panel(11, 26);
        x.test(0, 3);
        for (int taster = 0; taster < 26; taster++) {
            String served = Due.servings(x, 0, taster, false);
            int as = served.replace("B", "").length();
            due.same("how many of " + served, served.length(), 3);
            due.same("A and B in " + served, served.matches("[AB]*") && (as == 1 || as == 2), true);
        }
    }

    private static void pair(Due due) {
        due.sentence("1 a PAIR (A and B)", "each once");
        TasterPanels x = Due.panel(11, 26);
        x.test(1, 2);
        for (int taster = 0; taster < 26; taster++) {
            String served = Due.servings(x, 0, taster, false);
            due.same(served, served.equals("AB") || served.equals("BA"), true);
        }
    }

    private static void duo(Due due) {
        due.sentence("2 a DUO (a reference, A or B, then A and B)", "three, and the last two differ");
        TasterPanels x = Due.panel(11, 26);
        x.test(2, 2);
        for (int taster = 0; taster < 26; taster++) {
            String served = Due.servings(x, 0, taster, false);
            due.same(served, served.matches("[AB](AB|BA)"), true);
        }
    }

    private static void ranking(Due due) {
        for (int samples = 2; samples <= 5; samples++) {
            due.sentence("3 a RANKING (2 to 5 samples, numbered from 0)", samples + " samples, each once");
            TasterPanels x = Due.panel(11, 26);
            x.test(3, samples);
            for (int taster = 0; taster < 26; taster++) {
                String served = Due.servings(x, 0, taster, true);
                due.same("how many of " + served, served.length(), samples);
                for (int sample = 0; sample < samples; sample++) {
                    due.same("sample " + sample + " in " + served, served.indexOf('0' + sample) >= 0, true);
                }
            }
        }
    }

    private static void served(Due due, long seed, int[] test, String want) {
        String[] rows = want.split(" ");
        TasterPanels x = Due.panel(seed, rows.length);
        x.test(test[0], test[1]);
        for (int taster = 0; taster < rows.length; taster++) {
            String got = Due.servings(x, 0, taster, test[0] == 3);
            due.same("seed " + seed + ", kind " + test[0] + ", taster " + taster, got, rows[taster]);
        }
    }

    private static void orders(Due due) {
        due.sentence("of a triangle 0 AAB, 1 ABA, 2 BAA, 3 BBA, 4 BAB, 5 ABB", "from the first to the last");
        served(due, SIX_UNMIXED, TESTS[0], "AAB ABA BAA BBA BAB ABB");
        due.sentence("of a pair 0 AB, 1 BA", "both");
        served(due, TWO_UNMIXED, TESTS[1], "AB BA");
        due.sentence("of a duo 0 A AB, 1 A BA, 2 B AB, 3 B BA", "from the first to the last");
        served(due, FOUR_UNMIXED, TESTS[2], "AAB ABA BAB BBA");
    }

    private static void dictionary(Due due) {
        due.sentence("of a ranking of n samples the n! rows of all samples, as a dictionary has them", "2 and 3 samples");
        served(due, TWO_UNMIXED, TESTS[3], "01 10");
        served(due, SIX_UNMIXED, TESTS[4], "012 021 102 120 201 210");
    }

    /** Seeds with which the first or the last taster gets a row, as another program found them. */
    private static void firstAndLastRows(Due due) {
        String words = "of a ranking of n samples the n! rows of all samples, as a dictionary has them";
        due.sentence(words, "the first, the middle and the last rows of 4 samples");
        rowOf(due, 4, new long[] {3, 29, 48, 17, 13, 16}, 0, "0123 0132 1320 2013 3201 3210");
        rowOf(due, 4, new long[] {3, 4, 15, 41, 12, 67}, 25, "0123 0132 1320 2013 3201 3210");
        due.sentence(words, "the first, the middle and the last rows of 5 samples");
        rowOf(due, 5, new long[] {68, 9, 12, 180, 189, 133}, 0, "01234 01243 21430 23014 43201 43210");
        rowOf(due, 5, new long[] {67, 18, 213, 395, 109, 63}, 25, "01234 01243 21430 23014 43201 43210");
    }

    private static void rowOf(Due due, int samples, long[] seeds, int taster, String want) {
        String[] rows = want.split(" ");
        for (int i = 0; i < rows.length; i++) {
            TasterPanels x = Due.panel(seeds[i], 26);
            x.test(3, samples);
            due.same("seed " + seeds[i] + ", taster " + taster, Due.servings(x, 0, taster, true), rows[i]);
        }
    }

    /** What test number of an object with the seed serves from taster first on, a block at most. */
    private static String part(long seed, int of, int number, int first) {
        TasterPanels x = Due.panel(seed, 26);
        Due.tests(x, number, 1, 2);
        x.test(TESTS[of][0], TESTS[of][1]);
        StringBuilder part = new StringBuilder();
        for (int taster = first; taster < first + ORDERS[of] && taster < 26; taster++) {
            part.append(Due.servings(x, number, taster, TESTS[of][0] == 3)).append(' ');
        }
        return part.toString();
    }

    private static void startsLike(Due due, String call, String got, String whole) {
        due.same(call, got, whole.substring(0, Math.min(got.length(), whole.length())));
    }

    private static void blocks(Due due) {
        due.sentence("Tasters stand in BLOCKS of as many as there are orders, by their numbers", "each block begins where the last ends");
        for (int of = 0; of < TESTS.length; of++) {
            for (long seed = 8; seed < 13; seed++) {
                for (int first = 0, block = 0; first < 26; first += ORDERS[of], block++) {
                    startsLike(due, "seed " + seed + ", kind " + TESTS[of][0] + ", block " + block,
                        part(seed, of, 0, first), part(seed + 7919L * block, of, 0, 0));
                }
            }
        }
    }

    private static void fullBlocks(Due due) {
        due.sentence("in each block of a test the orders are mixed", "a full block has each order once");
        for (int of = 0; of < TESTS.length; of++) {
            for (long seed = -20; seed < 20; seed++) {
                for (int first = 0; first + ORDERS[of] <= 26; first += ORDERS[of]) {
                    Set<String> seen = new HashSet<>(Arrays.asList(part(seed, of, 0, first).split(" ")));
                    due.same("orders in the block from " + first, seen.size(), ORDERS[of]);
                }
            }
        }
    }

    private static void lastBlock(Due due) {
        due.sentence("The taster at place j of the block gets the order at place j", "the last block, which the tasters do not fill");
        // Tasters 24 and 25, of a ranking of 5 samples 23 to 25, as another program reckoned them with seed -1.
        due.same("a triangle", part(-1, 0, 0, 24), "BBA ABB ");
        due.same("a pair", part(-1, 1, 0, 24), "BA AB ");
        due.same("a duo", part(-1, 2, 0, 24), "BAB BBA ");
        due.same("a ranking of 4", part(-1, 5, 0, 24), "2130 2031 ");
        due.same("a ranking of 5", part(-1, 6, 0, 23), "40231 02143 40321 ");
    }

    private static void wrapAtTests(Due due) {
        due.sentence("h is seed + 1,000,003 * test + 7,919 * block (64 bits, wrapping)", "beyond the highest number by the test");
        for (int of = 0; of < TESTS.length; of++) {
            for (int number : new int[] {1, 2, 39}) {
                due.same("kind " + TESTS[of][0] + " as test " + number, part(Long.MAX_VALUE, of, number, 0),
                    part(Long.MIN_VALUE + 1_000_003L * number - 1, of, 0, 0));
            }
        }
        due.same("a triangle as test 39", part(Long.MAX_VALUE, 0, 39, 0), "BAB AAB ABB BAA BBA ABA ");
        due.same("a pair as test 39", part(Long.MAX_VALUE, 1, 39, 0), "AB BA ");
        due.same("a duo as test 39", part(Long.MAX_VALUE, 2, 39, 0), "BAB AAB ABA BBA ");
        startsLike(due, "a ranking as test 39", "34021 02431 03214 24301 32041 31024 ", part(Long.MAX_VALUE, 6, 39, 0));
    }

    private static void wrapAtBlocks(Due due) {
        due.sentence("h is seed + 1,000,003 * test + 7,919 * block (64 bits, wrapping)", "beyond the highest number by the block");
        due.same("a triangle, block 1", part(Long.MAX_VALUE, 0, 0, 6), "ABB BAB ABA BBA AAB BAA ");
        due.same("a triangle, block 4", part(Long.MAX_VALUE, 0, 0, 24), "ABA AAB ");
        due.same("a duo, block 1", part(Long.MAX_VALUE, 2, 0, 4), "AAB BBA ABA BAB ");
        due.same("a duo, block 6", part(Long.MAX_VALUE, 2, 0, 24), "ABA BAB ");
        due.same("a ranking of 4, block 1", part(Long.MAX_VALUE, 5, 0, 24), "1032 2013 ");
    }

    private static void wrapInTheMixing(Due due) {
        due.sentence("h becomes h * 6364136223846793005 + 1442695040888963407, and place i changes with place (h >>> 33) mod (i + 1)",
            "from the lowest and the highest h, and from -1");
        due.same("a triangle, lowest", part(Long.MIN_VALUE, 0, 0, 0), "AAB BAB BAA ABA ABB BBA ");
        due.same("a duo, lowest", part(Long.MIN_VALUE, 2, 0, 0), "AAB BAB ABA BBA ");
        due.same("a pair, lowest", part(Long.MIN_VALUE, 1, 0, 0), "AB BA ");
        due.same("a triangle, highest", part(Long.MAX_VALUE, 0, 0, 0), "BBA BAA ABB ABA BAB AAB ");
        due.same("a duo, highest", part(Long.MAX_VALUE, 2, 0, 0), "BBA BAB ABA AAB ");
        due.same("a pair, highest", part(Long.MAX_VALUE, 1, 0, 0), "BA AB ");
        due.same("a triangle, -1", part(-1, 0, 0, 0), "ABB AAB BAA ABA BBA BAB ");
        due.same("a duo, -1", part(-1, 2, 0, 0), "BBA ABA BAB AAB ");
        startsLike(due, "a ranking of 4, -1", "1302 3210 2031 2013 0321 2103 ", part(-1, 5, 0, 0));
        startsLike(due, "a ranking of 5, -1", "20341 34021 20413 30214 42031 31204 ", part(-1, 6, 0, 0));
    }

    /** Each taster chooses each place, in an object of its own. */
    private static void rightPlaces(Due due, long seed, int kind, int[] want) {
        for (int taster = 0; taster < want.length; taster++) {
            for (int choice = 0; choice < Due.samples(kind); choice++) {
                TasterPanels x = Due.panel(seed, want.length);
                x.test(kind, Due.samples(kind));
                x.answer(0, taster, choice);
                due.same("right(0) when " + taster + " chose " + choice, x.right(0), choice == want[taster] ? 1 : 0);
            }
        }
    }

    private static void rightOfATriangle(Due due) {
        due.sentence("RIGHT is in a triangle the place (from 0) of the odd one", "of AAB, ABA, BAA, BBA, BAB, ABB");
        rightPlaces(due, SIX_UNMIXED, 0, new int[] {2, 1, 0, 2, 1, 0});
    }

    private static void rightOfAPair(Due due) {
        due.sentence("in a pair the place of B", "of AB, BA");
        rightPlaces(due, TWO_UNMIXED, 1, new int[] {1, 0});
    }

    private static void rightOfADuo(Due due) {
        due.sentence("in a duo the place, of the two behind the reference, of the one that is like it", "of A AB, A BA, B AB, B BA");
        rightPlaces(due, FOUR_UNMIXED, 2, new int[] {0, 1, 1, 0});
    }

    private static void reduced(Due due) {
        due.sentence("CHANCES are reduced fractions: above (part 0) and below (part 1)", "4/8 and 9/81 and 4/8 of a ranking");
        TasterPanels x = Due.panel(3, 4);
        x.test(1, 2);
        for (int taster = 0; taster < 3; taster++) {
            Due.answer(x, 0, 1, taster, taster > 0);
        }
        due.chance(x, 0, 1, 2);
        x.test(0, 3);
        for (int taster = 0; taster < 4; taster++) {
            Due.answer(x, 1, 0, taster, taster > 0);
        }
        due.chance(x, 1, 1, 9);
        x.test(3, 2);
        Due.rankAll(x, 2, 0, 2, 1);
        Due.rankAll(x, 2, 1, 2, 1);
        due.permuted(x, 2, 1, 2);
    }

    private static void wholeChance(Due due) {
        due.sentence("CHANCES are reduced fractions: above (part 0) and below (part 1)", "what is certain is 1 / 1");
        for (int kind = 0; kind < 3; kind++) {
            TasterPanels x = Due.panel(3, 26);
            x.test(kind, Due.samples(kind));
            for (int taster = 0; taster < 26; taster++) {
                Due.answer(x, 0, kind, taster, false);
                due.chance(x, 0, 1, 1);
            }
        }
        TasterPanels x = Due.panel(3, 26);
        x.test(3, 5);
        for (int taster = 0; taster < 26; taster++) {
            Due.rankAll(x, 0, taster, 5, 3);
            due.permuted(x, 0, 1, 1);
        }
    }
}
