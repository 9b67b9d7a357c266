/** Promise 5: a taster answers a triangle, pair or duo once, with a place. */
public final class P05AnswerTest {
    public static void main(String[] args) {
        Due due = new Due();
        places(due);
        once(due);
        wrongInputs(due);
        due.end();
    }

    private static void places(Due due) {
        TasterPanels x = Due.panel(4, 10);
        int[] places = {3, 2, 2};
        for (int kind = 0; kind < 3; kind++) {
            x.test(kind, places[kind]);
            for (int choice = -2; choice < 6; choice++) {
                due.same("answer(" + kind + ", " + (choice + 2) + ", " + choice + ")",
                    x.answer(kind, choice + 2, choice), choice >= 0 && choice < places[kind]);
            }
            due.same("answer with the highest choice", x.answer(kind, 9, Integer.MAX_VALUE), false);
            due.same("answer with the lowest choice", x.answer(kind, 9, Integer.MIN_VALUE), false);
            due.same("a refused choice is no answer", x.answer(kind, 9, 1), true);
        }
    }

    private static void once(Due due) {
        TasterPanels x = Due.panel(4, 2);
        x.test(0, 3);
        x.test(0, 3);
        int right = Due.rightPlace(Due.servings(x, 0, 0, false), 0);
        due.same("a wrong answer", x.answer(0, 0, (right + 1) % 3), true);
        for (int choice = 0; choice < 3; choice++) {
            due.same("answer(0, 0, " + choice + ") again", x.answer(0, 0, choice), false);
        }
        due.same("right(0), as the second answer was refused", x.right(0), 0);
        due.chance(x, 0, 1, 1);
        due.same("another taster", x.answer(0, 1, 0), true);
        due.same("another test", x.answer(1, 0, 0), true);
    }

    private static void wrongInputs(Due due) {
        TasterPanels x = Due.panel(4, 2);
        x.test(1, 2);
        x.test(3, 3);
        for (int wrong : new int[] {-1, 2, 39, 40, Integer.MAX_VALUE, Integer.MIN_VALUE}) {
            due.same("answer(" + wrong + ", 0, 0)", x.answer(wrong, 0, 0), false);
        }
        for (int wrong : new int[] {-1, 2, 25, 26, Integer.MAX_VALUE, Integer.MIN_VALUE}) {
            due.same("answer(0, " + wrong + ", 0)", x.answer(0, wrong, 0), false);
        }
        for (int choice = 0; choice < 3; choice++) {
            due.same("a ranking is not answered", x.answer(1, 0, choice), false);
        }
        due.same("right(0) has not changed", x.right(0), 0);
        due.same("chance(0, 0) has not come", x.chance(0, 0), -1);
    }
}
