/** Promises 9, 10, 11, 12 and 17: after a change only the tables on the way to the root are made anew. */
public final class ChangesTest {
    private static final int NONE = BargainTree.NONE;
    private static final int NEVER = BargainTree.NEVER;
    private static final int TABLE = 2;
    private static final int CHOICE = 3;

    public static void main(String[] args) {
        noSuchPair();
        noSuchValue();
        noSuchCost();
        notDone();
        otherPartNotDone();
        argumentsBeforeStates();
        toTheSameCost();
        ancestorThatIsNoParent();
        ancestorWithTheGreaterNumber();
        wayToTheRoot();
        earlierTables();
        toNoneAndBack();
        runsOfParts();
        fullRow();
        Check.end();
    }

    /** The tree of the chain 0-1-2-3 is 1 with 2 and 0 below it, and 3 below 2. */
    private static BargainTree chainStarted() {
        BargainTree x = Check.problem(2, 2, 2, 2);
        Check.join(x, "0-1 1-2 2-3");
        x.start();
        return x;
    }

    private static BargainTree chainDone() {
        BargainTree x = chainStarted();
        Check.deliverAll(x);
        Check.same("11: done()", 1, x.done());
        return x;
    }

    private static String noSuch(int a, int b, int valueA, int valueB, int cost) {
        return "10: change(" + a + ", " + b + ", " + valueA + ", " + valueB + ", " + cost + ")";
    }

    private static void refused(BargainTree x, int a, int b, int valueA, int valueB, int cost) {
        Check.thrown(noSuch(a, b, valueA, valueB, cost), Check.ARGUMENT, () -> x.change(a, b, valueA, valueB, cost));
    }

    /** "IllegalArgumentException as for cost": when there is no such pair */
    private static void noSuchPair() {
        BargainTree x = chainDone();
        String before = Check.look(x, 4);
        int[][] pairs = {{0, 0}, {1, 1}, {2, 2}, {3, 3}, {0, 2}, {2, 0}, {0, 3}, {3, 0}, {1, 3}, {3, 1}};
        for (int[] p : pairs) {
            refused(x, p[0], p[1], 0, 0, 1);
        }
        for (int bad : Check.outside(0, 3)) {
            refused(x, bad, 1, 0, 0, 1);
            refused(x, 2, bad, 0, 0, 1);
            refused(x, bad, bad, 0, 0, 1);
        }
        Check.same("10: nothing was changed", before, Check.look(x, 4));
    }

    /** "or value" */
    private static void noSuchValue() {
        BargainTree x = Check.problem(2, 3, 4);
        Check.join(x, "0-1 1-2");
        x.start();
        Check.deliverAll(x);
        String before = Check.look(x, 3);
        for (int bad : Check.outside(0, 1)) {
            refused(x, 0, 1, bad, 0, 1);
            refused(x, 1, 0, 0, bad, 1);
        }
        for (int bad : Check.outside(0, 2)) {
            refused(x, 1, 0, bad, 0, 1);
            refused(x, 1, 2, bad, 0, 1);
            refused(x, 2, 1, 0, bad, 1);
        }
        for (int bad : Check.outside(0, 3)) {
            refused(x, 2, 1, bad, 0, 1);
            refused(x, 1, 2, 0, bad, 1);
        }
        Check.same("10: nothing was changed", before, Check.look(x, 3));
        int[][] last = {{0, 1, 1, 2}, {1, 0, 2, 1}, {1, 2, 2, 3}, {2, 1, 3, 2}};
        for (int[] c : last) {
            Check.same("10: the greatest values", 1, x.change(c[0], c[1], c[2], c[3], 1));
            Check.deliverAll(x);
        }
    }

    /** "or cost is not 0 .. 999 or NEVER" */
    private static void noSuchCost() {
        BargainTree x = Check.problem(2, 2);
        x.pair(0, 1);
        Check.costAll(x, 0, 1, NEVER);
        x.start();
        Check.deliverAll(x);
        for (int cost : new int[] {0, 1, 998, 999, NEVER}) {
            Check.same("10: change", 1, x.change(1, 0, 0, 1, cost));
            Check.deliverAll(x);
            Check.same("13: it costs " + cost, cost == NEVER ? NONE : cost, x.total());
            String before = Check.look(x, 2);
            for (int bad : Check.NO_COSTS) {
                refused(x, 0, 1, 1, 0, bad);
            }
            Check.same("10: nothing was changed", before, Check.look(x, 2));
        }
    }

    /** "IllegalStateException when done() is not 1 or 2." */
    private static void notDone() {
        BargainTree open = Check.problem(2, 2);
        open.pair(0, 1);
        Check.thrown("10: open", Check.STATE, () -> open.change(0, 1, 0, 0, 1));
        Check.same("6: it can be started still", 1, open.start());
        for (int letters = 0; letters < 4; letters++) {
            Check.same("11: not done", 0, open.done());
            String before = Check.look(open, 2);
            Check.thrown("10: not done", Check.STATE, () -> open.change(0, 1, 0, 0, 1));
            Check.thrown("10: not done", Check.STATE, () -> open.change(1, 0, 1, 1, NEVER));
            Check.same("10: nothing was changed", before, Check.look(open, 2));
            open.letter(0, 0);
        }
        Check.same("11: all are settled", 1, open.done());
        Check.same("13: no cost was changed", 0, open.total());
        Check.same("12: no cost was changed", 0, open.value(1));
        Check.same("10: change", 1, open.change(0, 1, 0, 0, 1));
        Check.letter("10: the second run", open, 0, TABLE, 1, 0, 2, 2);
        Check.thrown("10: not done", Check.STATE, () -> open.change(0, 1, 0, 0, 1));
        Check.same("7: the table comes", 1, open.letter(0, 0));
        Check.thrown("10: 1 is not settled in this run", Check.STATE, () -> open.change(0, 1, 0, 0, 1));
        open.letter(0, 0);
        Check.same("10: change", 1, open.change(0, 1, 0, 0, 1));
    }

    /** Another part has not ended: no change here either. */
    private static void otherPartNotDone() {
        BargainTree x = Check.started(4, "0-1 2-3");
        x.letter(0, 0);
        Check.letter("the token of 2 stays", x, 0, 0, 2, 3, 4, 0);
        x.letter(1, 0);
        x.letter(1, 0);
        x.letter(1, 0);
        Check.same("12: 0 is settled", 0, x.value(0));
        Check.same("12: 1 is settled", 0, x.value(1));
        Check.thrown("10: 2 and 3 are not", Check.STATE, () -> x.change(0, 1, 0, 0, 1));
        Check.deliverAll(x);
        Check.same("10: now all are", 1, x.change(0, 1, 0, 0, 1));
    }

    /** Where arguments and state are both wrong, the document names the arguments first. */
    private static void argumentsBeforeStates() {
        BargainTree open = Check.problem(2, 2, 2);
        open.pair(0, 1);
        BargainTree x = Check.started(3, "0-1");
        for (BargainTree y : new BargainTree[] {open, x}) {
            refused(y, 0, 2, 0, 0, 1);
            refused(y, 0, 3, 0, 0, 1);
            refused(y, -1, 0, 0, 0, 1);
            refused(y, 0, 1, 2, 0, 1);
            refused(y, 0, 1, 0, -1, 1);
            refused(y, 0, 1, 0, 0, 1000);
            refused(y, 0, 1, 0, 0, -1);
        }
    }

    /** "A change (perhaps to the cost that it has)": that is a change too. */
    private static void toTheSameCost() {
        BargainTree x = chainDone();
        for (int run = 2; run < 12; run++) {
            Check.same("10: change", 1, x.change(1, 0, 1, 1, 0));
            Check.letter("10: a table of the next run", x, 0, TABLE, 0, 1, run, 2);
            Check.same("11: something is to be done", 0, x.done());
            Check.same("17: that one's own counts", 1, x.tables());
            Check.deliverAll(x);
            Check.same("11: done()", 1, x.done());
            Check.same("17: and the root's", 2, x.tables());
        }
    }

    private static void wayToTheRoot() {
        BargainTree x = chainDone();
        Check.same("10: one table is sent", 1, x.change(2, 3, 0, 1, 7));
        Check.letter("10: in the next run", x, 0, TABLE, 3, 2, 2, 2);
        Check.content("10: still as cheap", x, 0, 0, 0);
        Check.same("17: that one's own", 1, x.tables());
        Check.same("11: not done", 0, x.done());
        Check.same("13: not done", NONE, x.total());
        Check.same("12: settled in the run before", NONE, x.value(1));
        Check.thrown("10: not done", Check.STATE, () -> x.change(2, 3, 0, 0, 7));
        x.letter(0, 0);
        Check.letter("upwards", x, 0, TABLE, 2, 1, 2, 2);
        Check.same("17: one more", 2, x.tables());
        x.letter(0, 0);
        Check.same("17: the root's", 3, x.tables());
        Check.letter("downwards", x, 0, CHOICE, 1, 2, 2, 1);
        Check.letter("downwards to the other child too", x, 1, CHOICE, 1, 0, 2, 1);
        Check.same("12: the root is settled again", 0, x.value(1));
        Check.same("12: the others are not", NONE, x.value(2));
        Check.deliverAll(x);
        Check.same("11: done()", 1, x.done());
        Check.same("17: not that of 0", 3, x.tables());
        Check.same("10: turned round", 1, x.change(3, 2, 0, 0, 8));
        Check.content("10: the least of two", x, 0, 7, 0);
        Check.deliverAll(x);
        Check.same("12: value(2) goes out of the way", 1, x.value(2));
        Check.same("12: value(3)", 0, x.value(3));
        Check.same("10: to what it was", 1, x.change(0, 1, 0, 0, 0));
        Check.letter("10: of 0, the fourth run", x, 0, TABLE, 0, 1, 4, 2);
        Check.deliverAll(x);
        Check.same("17: of 0 and the root", 2, x.tables());
        Check.same("9: the latest of each", 2, x.again(3));
        Check.letter("9: its table is of the third run", x, 1, TABLE, 3, 2, 3, 2);
    }

    /** Tables under way from runs before are nothing, and stay as they were. */
    private static void earlierTables() {
        BargainTree x = chainDone();
        x.again(3);
        x.letter(0, 1);
        Check.letter("of the first run", x, 0, TABLE, 3, 2, 1, 2);
        Check.same("10: change", 2, x.change(2, 3, 1, 0, 5));
        x.letter(1, 0);
        Check.letter("of the first run", x, 0, TABLE, 3, 2, 1, 2);
        Check.same("it comes too late", 1, x.letter(0, 0));
        Check.same("17: and makes none", 2, x.tables());
        Check.deliverAll(x);
        Check.same("10: change", 1, x.change(2, 3, 1, 1, 6));
        x.letter(0, 2);
        Check.content("the first entry is free, the second costs", x, 0, 0, 5);
        x.letter(0, 0);
        Check.same("its double comes too late", 1, x.letter(0, 0));
        Check.deliverAll(x);
        x.change(2, 3, 1, 1, 0);
        x.letter(0, 2);
        x.letter(0, 0);
        Check.letter("a double of the fourth run", x, 0, TABLE, 3, 2, 4, 2);
        Check.letter("of 2", x, 1, TABLE, 2, 1, 4, 2);
        for (int i = 0; i < 9; i++) {
            if (Check.lettersOf(x) > 1) {
                x.letter(1, 0);
            }
        }
        Check.same("11: done with one under way", 1, x.done());
        Check.same("10: change with one under way", 2, x.change(2, 3, 1, 1, 9));
        Check.content("the earlier one is as it was", x, 0, 0, 0);
        Check.content("the later one", x, 1, 0, 5);
    }

    private static void toNoneAndBack() {
        BargainTree x = Check.problem(2, 2, 2);
        Check.join(x, "0-1 1-2");
        x.own(0, 1, NEVER);
        x.own(1, 1, NEVER);
        x.start();
        Check.deliverAll(x);
        Check.same("13: total()", 0, x.total());
        x.change(0, 1, 0, 0, NEVER);
        Check.content("10: never", x, 0, NEVER, 0);
        Check.deliverAll(x);
        Check.same("11: none", 2, x.done());
        Check.same("13: none", NONE, x.total());
        for (int a = 0; a < 3; a++) {
            Check.same("12: settled in the run before", NONE, x.value(a));
        }
        Check.same("9: by the run it is settled in", 2, x.again(1));
        Check.letter("9: the first", x, 0, CHOICE, 1, 0, 1, 1);
        Check.deliverAll(x);
        Check.same("11: none", 2, x.done());
        Check.same("10: a change when there is none", 1, x.change(1, 2, 0, 0, 3));
        Check.letter("10: the third run", x, 0, TABLE, 2, 1, 3, 2);
        Check.same("11: not done", 0, x.done());
        Check.deliverAll(x);
        Check.same("11: still none", 2, x.done());
        x.change(0, 1, 0, 0, 11);
        Check.deliverAll(x);
        Check.same("11: done()", 1, x.done());
        Check.same("13: total()", 11, x.total());
        Check.same("12: value(2)", 1, x.value(2));
        x.again(1);
        Check.letter("9: the fourth run", x, 0, CHOICE, 1, 0, 4, 1);
    }

    private static void runsOfParts() {
        BargainTree x = Check.problem(2, 2, 2, 2);
        Check.join(x, "0-1 2-3");
        x.start();
        Check.deliverAll(x);
        x.change(2, 3, 0, 0, 1);
        Check.same("12: another part stays settled", 0, x.value(0));
        Check.same("12: this one does not", NONE, x.value(2));
        Check.deliverAll(x);
        Check.same("13: total()", 0, x.total());
        Check.same("10: change", 1, x.change(0, 1, 0, 0, 1));
        Check.letter("10: the second run of its part", x, 0, TABLE, 1, 0, 2, 2);
        Check.deliverAll(x);
        x.change(2, 3, 0, 0, 1);
        Check.letter("10: the third run of its part", x, 0, TABLE, 3, 2, 3, 2);
    }

    private static void fullRow() {
        BargainTree x = chainDone();
        x.again(0);
        for (int i = 0; i < 18; i++) {
            x.letter(0, 2);
        }
        Check.same("10: its table is lost", 20, x.change(0, 1, 0, 0, 4));
        Check.same("17: but made", 1, x.tables());
        Check.deliverAll(x);
        Check.same("11: not done", 0, x.done());
        x.again(0);
        Check.letter("9: its table", x, 1, TABLE, 0, 1, 2, 2);
        Check.deliverAll(x);
        Check.same("11: done()", 1, x.done());
        Check.same("12: value(0)", 1, x.value(0));
    }

    /** "of the two agents the one that has the other one as an ancestor makes its table anew in this run" */
    private static void ancestorThatIsNoParent() {
        BargainTree x = Check.settled(8, "0-1 1-2 2-3 3-4 4-5 5-6 6-7 7-0");
        Check.same("10: change", 1, x.change(0, 7, 0, 0, 9));
        Check.letter("10: 7 has 0 as an ancestor, and 6 as its parent", x, 0, TABLE, 7, 6, 2, 4);
        Check.deliverAll(x);
        Check.same("17: of all eight", 8, x.tables());
        Check.same("12: 7 goes out of the way", 1, x.value(7));
        Check.same("10: turned round", 1, x.change(7, 0, 1, 0, 9));
        Check.letter("10: of 7 again", x, 0, TABLE, 7, 6, 3, 4);
        Check.deliverAll(x);
        Check.same("12: now 0 goes out of the way", 1, x.value(0));
        Check.same("13: total()", 0, x.total());
    }

    private static void ancestorWithTheGreaterNumber() {
        BargainTree x = Check.settled(4, "3-0 3-1 3-2");
        for (int a = 0; a < 3; a++) {
            Check.same("10: change", 1, x.change(3, a, 0, 0, 1));
            Check.letter("10: of the lower one", x, 0, TABLE, a, 3, 2 + 2 * a, 2);
            Check.deliverAll(x);
            Check.same("10: turned round", 1, x.change(a, 3, 1, 0, 1));
            Check.letter("10: of the lower one", x, 0, TABLE, a, 3, 3 + 2 * a, 2);
            Check.deliverAll(x);
            Check.same("17: its own and the root's", 2, x.tables());
            Check.same("12: the root goes out of the way", 1, x.value(3));
        }
    }
}
