/** Promises 8, 11, 12 and 13: choices go down, and the agents are settled. */
public final class ChoicesTest {
    private static final int NONE = BargainTree.NONE;
    private static final int NEVER = BargainTree.NEVER;
    private static final int CHOICE = 3;
    private static final String TWELVE = "0-1 1-2 2-3 3-4 4-5 5-6 6-7 7-0 0-2 1-3 4-6 5-7";

    public static void main(String[] args) {
        chain();
        leastValueOfEqualOnes();
        rootFindsNone();
        severalParts();
        dearestTotal();
        oneCostIsNever();
        settledAtFirst();
        runsOfChoices();
        choiceInAnyOrder();
        Check.end();
    }

    /** The tree of the chain 0-1-2-3 is 1 with 2 and 0 below it, and 3 below 2. */
    private static void chain() {
        BargainTree x = Check.problem(2, 3, 4, 2);
        Check.join(x, "0-1 1-2 2-3");
        x.own(1, 0, 9);
        x.own(1, 1, 9);
        for (int v = 0; v < 3; v++) {
            x.own(2, v, 50);
        }
        x.own(3, 0, 1);
        x.own(0, 0, 1);
        Check.same("11: open", 0, x.done());
        x.start();
        for (int i = 0; i < 40 && x.value(1) == NONE; i++) {
            Check.same("11: nobody is settled", 0, x.done());
            x.letter(0, 0);
        }
        Check.same("12: the root first", 2, x.value(1));
        Check.same("two choices", 2, Check.lettersOf(x));
        Check.letter("to the first child", x, 0, CHOICE, 1, 2, 1, 1);
        Check.letter("to the second child", x, 1, CHOICE, 1, 0, 1, 1);
        Check.content("the root's value", x, 0, NONE, 2, NONE, NONE, NONE, NONE, NONE, NONE);
        x.letter(0, 2);
        Check.same("one more", 3, x.letter(0, 0));
        Check.letter("what it was told, and its own", x, 2, CHOICE, 2, 3, 1, 2);
        Check.content("what it was told, and its own", x, 2, NONE, 2, 3, NONE, NONE, NONE, NONE, NONE);
        Check.same("12: settled", 3, x.value(2));
        Check.content("its letter's double is as it was", x, 1, NONE, 2, NONE, NONE, NONE, NONE, NONE, NONE);
        Check.same("settled in this run already", 2, x.letter(1, 0));
        Check.same("11: two are not", 0, x.done());
        Check.same("13: total()", NONE, x.total());
        Check.same("12: not settled", NONE, x.value(0));
        x.letter(0, 0);
        Check.same("12: settled", 1, x.value(0));
        Check.same("11: one is not", 0, x.done());
        x.letter(0, 0);
        Check.same("12: settled", 1, x.value(3));
        Check.same("11: all are", 1, x.done());
        Check.same("13: total()", 0, x.total());
    }

    /** "takes the least of its values with which that entry of its table is reached" */
    private static void leastValueOfEqualOnes() {
        BargainTree x = Check.problem(4, 4);
        x.pair(0, 1);
        for (int v = 0; v < 4; v++) {
            for (int w = 0; w < 4; w++) {
                x.cost(0, 1, v, w, v > 0 && w > 1 ? 6 : 7);
            }
        }
        x.start();
        Check.deliverAll(x);
        Check.same("12: the least of the root's", 1, x.value(0));
        Check.same("12: the least of the child's", 2, x.value(1));
        Check.same("13: total()", 6, x.total());
    }

    /** "(A root whose entry is NEVER finds NONE in this run instead.)" */
    private static void rootFindsNone() {
        BargainTree x = Check.problem(2, 2, 3);
        x.pair(0, 1);
        for (int v = 0; v < 4; v++) {
            x.cost(0, 1, v / 2, v % 2, NEVER);
        }
        x.own(2, 0, 4);
        x.start();
        Check.same("12: another part", 1, x.value(2));
        x.letter(0, 0);
        x.letter(0, 0);
        Check.same("11: not yet", 0, x.done());
        Check.same("no choice is sent", 0, x.letter(0, 0));
        Check.same("11: none", 2, x.done());
        Check.same("13: none", NONE, x.total());
        Check.same("12: none", NONE, x.value(0));
        Check.same("12: none", NONE, x.value(1));
        Check.same("12: another part", 1, x.value(2));
        Check.same("16: its table has an entry", 1, x.entries(0));
        Check.same("17: tables", 3, x.tables());
        Check.same("9: nothing to choose", 0, x.again(0));
    }

    private static void severalParts() {
        BargainTree x = Check.problem(2, 2, 2, 2, 2);
        Check.join(x, "0-1 2-3");
        x.own(0, 0, 1);
        x.own(0, 1, 2);
        x.own(2, 0, 20);
        x.own(2, 1, 10);
        x.own(4, 0, NEVER);
        x.own(4, 1, 100);
        Check.same("6: parts", 3, x.start());
        Check.same("11: one part has ended", 0, x.done());
        Check.same("13: not yet", NONE, x.total());
        Check.deliverAll(x);
        Check.same("11: all have", 1, x.done());
        Check.same("13: the sum of all parts", 111, x.total());
        BargainTree y = Check.problem(2, 2, 2);
        y.pair(0, 1);
        y.own(2, 0, NEVER);
        y.own(2, 1, NEVER);
        y.start();
        Check.same("11: a root has found none, but one part has not ended", 0, y.done());
        Check.deliverAll(y);
        Check.same("11: all have ended", 2, y.done());
        Check.same("12: of the part that has an assignment", 0, y.value(0));
        Check.same("13: none", NONE, y.total());
    }

    /** Eight agents, twelve pairs, and everything costs as much as it can. */
    private static BargainTree dearest() {
        BargainTree x = Check.problem(2, 2, 2, 2, 2, 2, 2, 2);
        Check.join(x, TWELVE);
        for (int a = 0; a < 8; a++) {
            x.own(a, 0, 999);
            x.own(a, 1, 999);
        }
        for (String p : TWELVE.split(" ")) {
            Check.costAll(x, p.charAt(0) - '0', p.charAt(2) - '0', 999);
        }
        return x;
    }

    /** "it costs the sum of all own costs and costs of pairs" */
    private static void dearestTotal() {
        BargainTree x = dearest();
        x.start();
        Check.deliverAll(x);
        Check.same("13: all cost the most", 20 * 999, x.total());
        x.change(5, 7, 0, 0, 998);
        Check.deliverAll(x);
        Check.same("13: one less", 20 * 999 - 1, x.total());
    }

    /** "or NEVER, if one of them is that" */
    private static void oneCostIsNever() {
        for (int a = 0; a < 8; a++) {
            BargainTree x = dearest();
            x.own(a, 0, NEVER);
            x.start();
            Check.deliverAll(x);
            Check.same("13: another value can be taken", 20 * 999, x.total());
            Check.same("12: not the one that is never", 1, x.value(a));
            BargainTree y = dearest();
            y.own(a, 0, NEVER);
            y.own(a, 1, NEVER);
            y.start();
            Check.deliverAll(y);
            Check.same("11: no value can be taken", 2, y.done());
        }
        for (String p : TWELVE.split(" ")) {
            BargainTree x = dearest();
            Check.costAll(x, p.charAt(0) - '0', p.charAt(2) - '0', NEVER);
            x.start();
            Check.deliverAll(x);
            Check.same("11: no values of " + p, 2, x.done());
            Check.same("13: no values of " + p, NONE, x.total());
        }
    }

    /** "CHOICE with a run greater than the one it is settled in (0 before)": also when the first one is of a later run. */
    private static void settledAtFirst() {
        BargainTree x = Check.problem(2, 2);
        x.pair(0, 1);
        Check.costAll(x, 0, 1, NEVER);
        x.start();
        Check.deliverAll(x);
        Check.same("11: none in the first run", 2, x.done());
        x.change(0, 1, 1, 1, 4);
        x.letter(0, 0);
        Check.letter("the first choice is of the second run", x, 0, CHOICE, 0, 1, 2, 1);
        Check.same("12: the root is settled", 1, x.value(0));
        Check.same("12: the other one is not", NONE, x.value(1));
        x.letter(0, 0);
        Check.same("12: now it is", 1, x.value(1));
        Check.same("13: total()", 4, x.total());
    }

    /** "Any other CHOICE: nothing." */
    private static void runsOfChoices() {
        BargainTree x = Check.settled(2, "0-1");
        x.again(0);
        Check.same("a run as great is nothing", 0, x.letter(0, 0));
        Check.same("12: it stays", 0, x.value(1));
        x.again(0);
        Check.letter("of the first run", x, 0, CHOICE, 0, 1, 1, 1);
        x.change(0, 1, 0, 0, 3);
        Check.same("12: settled in the run before", NONE, x.value(1));
        x.letter(0, 2);
        Check.same("a run as great is nothing, in a new run too", 2, x.letter(0, 0));
        Check.same("12: settled in the run before", NONE, x.value(1));
        x.letter(0, 0);
        Check.letter("of the first run", x, 0, CHOICE, 0, 1, 1, 1);
        Check.letter("of the second run", x, 1, CHOICE, 0, 1, 2, 1);
        Check.same("a greater run", 1, x.letter(1, 0));
        Check.same("12: settled anew", 1, x.value(1));
        Check.same("a lesser run is nothing", 0, x.letter(0, 0));
        Check.same("12: it stays", 1, x.value(1));
        Check.same("11: done()", 1, x.done());
        x.again(0);
        Check.letter("9: of the second run", x, 0, CHOICE, 0, 1, 2, 1);
    }

    /** The choice of the first run comes behind that of the second: an agent with a child sends nothing then. */
    private static void choiceInAnyOrder() {
        BargainTree x = Check.settled(4, "0-1 1-2 2-3");
        x.again(1);
        x.letter(1, 1);
        Check.letter("of the first run", x, 0, CHOICE, 1, 2, 1, 1);
        x.change(1, 2, 0, 0, 5);
        x.letter(1, 0);
        Check.letter("of the second run", x, 1, CHOICE, 1, 2, 2, 1);
        Check.same("7: it tells 3", 3, x.letter(1, 0));
        Check.letter("to 3", x, 2, CHOICE, 2, 3, 2, 2);
        Check.same("7: the one of the first run is nothing", 2, x.letter(0, 0));
        Check.same("12: 2 stays settled", 1, x.value(2));
        Check.deliverAll(x);
        Check.same("11: done()", 1, x.done());
    }
}
