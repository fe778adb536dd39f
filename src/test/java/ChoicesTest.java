/** Promises 8, 11, 12 and 13: choices go down, and the agents are settled. */
public final class ChoicesTest {
    private static final int NONE = BargainTree.NONE;
    private static final int NEVER = BargainTree.NEVER;
    private static final int CHOICE = 3;

    public static void main(String[] args) {
        chain();
        leastValueOfEqualOnes();
        rootFindsNone();
        severalParts();
        dearestTotal();
        Check.end();
    }

    /** The tree of the chain 0-1-2-3 is 1 with 2 and 0 below it, and 3 below 2. */
    private static void chain() {
        BargainTree x = Check.problem(2, 3, 4, 2);
        Check.join(x, "0-1 1-2 2-3");
        x.own(1, 0, 9);
        x.own(1, 1, 9);
        for (int v = 0; v < 3; v++) {
            x.own(2, v, 50);
        }
        x.own(3, 0, 1);
        x.own(0, 0, 1);
        Check.same("11: open", 0, x.done());
        x.start();
        for (int i = 0; i < 40 && x.value(1) == NONE; i++) {
            Check.same("11: nobody is settled", 0, x.done());
            x.letter(0, 0);
        }
        Check.same("12: the root first", 2, x.value(1));
        Check.same("two choices", 2, Check.lettersOf(x));
        Check.letter("to the first child", x, 0, CHOICE, 1, 2, 1, 1);
        Check.letter("to the second child", x, 1, CHOICE, 1, 0, 1, 1);
        Check.content("the root's value", x, 0, NONE, 2, NONE, NONE, NONE, NONE, NONE, NONE);
        x.letter(0, 2);
        Check.same("one more", 3, x.letter(0, 0));
        Check.letter("what it was told, and its own", x, 2, CHOICE, 2, 3, 1, 2);
        Check.content("what it was told, and its own", x, 2, NONE, 2, 3, NONE, NONE, NONE, NONE, NONE);
        Check.same("12: settled", 3, x.value(2));
        Check.content("its letter's double is as it was", x, 1, NONE, 2, NONE, NONE, NONE, NONE, NONE, NONE);
        Check.same("settled in this run already", 2, x.letter(1, 0));
        Check.same("11: two are not", 0, x.done());
        Check.same("13: total()", NONE, x.total());
        Check.same("12: not settled", NONE, x.value(0));
        x.letter(0, 0);
        Check.same("12: settled", 1, x.value(0));
        Check.same("11: one is not", 0, x.done());
        x.letter(0, 0);
        Check.same("12: settled", 1, x.value(3));
        Check.same("11: all are", 1, x.done());
        Check.same("13: total()", 0, x.total());
        for (int a : new int[] {Integer.MIN_VALUE, -1, 4, 8, Integer.MAX_VALUE}) {
            Check.same("12: no such agent", NONE, x.value(a));
        }
    }

    private static void leastValueOfEqualOnes() {
        BargainTree x = Check.problem(4, 4);
        x.pair(0, 1);
        for (int v = 0; v < 4; v++) {
            for (int w = 0; w < 4; w++) {
                x.cost(0, 1, v, w, v > 0 && w > 1 ? 6 : 7);
            }
        }
        x.start();
        Check.deliverAll(x);
        Check.same("12: the least of the root's", 1, x.value(0));
        Check.same("12: the least of the child's", 2, x.value(1));
        Check.same("13: total()", 6, x.total());
    }

    private static void rootFindsNone() {
        BargainTree x = Check.problem(2, 2, 3);
        x.pair(0, 1);
        for (int v = 0; v < 4; v++) {
            x.cost(0, 1, v / 2, v % 2, NEVER);
        }
        x.own(2, 0, 4);
        x.start();
        Check.same("12: another part", 1, x.value(2));
        x.letter(0, 0);
        x.letter(0, 0);
        Check.same("11: not yet", 0, x.done());
        Check.same("no choice is sent", 0, x.letter(0, 0));
        Check.same("11: none", 2, x.done());
        Check.same("13: none", NONE, x.total());
        Check.same("12: none", NONE, x.value(0));
        Check.same("12: none", NONE, x.value(1));
        Check.same("12: another part", 1, x.value(2));
        Check.same("16: its table has an entry", 1, x.entries(0));
        Check.same("17: tables", 3, x.tables());
        Check.same("9: nothing to choose", 0, x.again(0));
    }

    private static void severalParts() {
        BargainTree x = Check.problem(2, 2, 2, 2, 2);
        Check.join(x, "0-1 2-3");
        x.own(0, 0, 1);
        x.own(0, 1, 2);
        x.own(2, 0, 20);
        x.own(2, 1, 10);
        x.own(4, 0, NEVER);
        x.own(4, 1, 100);
        Check.same("6: parts", 3, x.start());
        Check.same("11: one part has ended", 0, x.done());
        Check.same("13: not yet", NONE, x.total());
        Check.deliverAll(x);
        Check.same("11: all have", 1, x.done());
        Check.same("13: the sum of all parts", 111, x.total());
        BargainTree y = Check.problem(2, 2, 2);
        y.pair(0, 1);
        y.own(2, 0, NEVER);
        y.own(2, 1, NEVER);
        y.start();
        Check.same("11: a root has found none, but one part has not ended", 0, y.done());
        Check.deliverAll(y);
        Check.same("11: all have ended", 2, y.done());
        Check.same("12: of the part that has an assignment", 0, y.value(0));
        Check.same("13: none", NONE, y.total());
    }

    private static void dearestTotal() {
        BargainTree x = Check.problem(2, 2, 2, 2, 2, 2, 2, 2);
        Check.join(x, "0-1 1-2 2-3 3-4 4-5 5-6 6-7 7-0 0-2 1-3 4-6 5-7");
        for (int a = 0; a < 8; a++) {
            x.own(a, 0, 999);
            x.own(a, 1, 999);
            for (int b = 0; b < a; b++) {
                costAll(x, a, b);
            }
        }
        x.start();
        Check.deliverAll(x);
        Check.same("13: all cost the most", 20 * 999, x.total());
    }

    private static void costAll(BargainTree x, int a, int b) {
        try {
            for (int v = 0; v < 4; v++) {
                x.cost(a, b, v / 2, v % 2, 999);
            }
        } catch (IllegalArgumentException e) {
            // they are no pair
        }
    }
}
