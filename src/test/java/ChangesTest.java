/** Promises 9, 10, 11, 12 and 17: after a change only the tables on the way to the root are made anew. */
public final class ChangesTest {
    private static final int NONE = BargainTree.NONE;
    private static final int NEVER = BargainTree.NEVER;
    private static final int TABLE = 2;
    private static final int CHOICE = 3;

    public static void main(String[] args) {
        wrongCalls();
        wayToTheRoot();
        earlierTables();
        toNoneAndBack();
        runsOfParts();
        fullRow();
        Check.end();
    }

    /** The tree of the chain 0-1-2-3 is 1 with 2 and 0 below it, and 3 below 2. */
    private static BargainTree chainStarted() {
        BargainTree x = Check.problem(2, 2, 2, 2);
        Check.join(x, "0-1 1-2 2-3");
        x.start();
        return x;
    }

    private static BargainTree chainDone() {
        BargainTree x = chainStarted();
        Check.deliverAll(x);
        Check.same("11: done()", 1, x.done());
        return x;
    }

    private static void wrongCalls() {
        BargainTree open = Check.problem(2, 2);
        open.pair(0, 1);
        Check.thrown("10: open", Check.STATE, () -> open.change(0, 1, 0, 0, 1));
        Check.thrown("10: open, no such value", Check.ARGUMENT, () -> open.change(0, 1, 0, 2, 1));
        BargainTree x = chainStarted();
        Check.thrown("10: not done", Check.STATE, () -> x.change(0, 1, 0, 0, 1));
        Check.thrown("10: not done, no such pair", Check.ARGUMENT, () -> x.change(0, 2, 0, 0, 1));
        Check.deliverAll(x);
        for (int bad : new int[] {Integer.MIN_VALUE, -3, -1, 4, 8, 1000, Integer.MAX_VALUE}) {
            Check.thrown("10: no such agent", Check.ARGUMENT, () -> x.change(bad, 1, 0, 0, 1));
            Check.thrown("10: no such agent", Check.ARGUMENT, () -> x.change(0, bad, 0, 0, 1));
            Check.thrown("10: no such value", Check.ARGUMENT, () -> x.change(0, 1, bad, 0, 1));
            Check.thrown("10: no such value", Check.ARGUMENT, () -> x.change(0, 1, 0, bad, 1));
        }
        for (int cost : new int[] {Integer.MIN_VALUE, -3, -1, 1000, Integer.MAX_VALUE}) {
            Check.thrown("10: no such cost", Check.ARGUMENT, () -> x.change(0, 1, 0, 0, cost));
        }
        Check.thrown("10: one agent", Check.ARGUMENT, () -> x.change(1, 1, 0, 0, 1));
        Check.thrown("10: no pair", Check.ARGUMENT, () -> x.change(0, 3, 0, 0, 1));
        Check.same("11: nothing was changed", 1, x.done());
        Check.same("17: nothing was made", 4, x.tables());
    }

    private static void wayToTheRoot() {
        BargainTree x = chainDone();
        Check.same("10: one table is sent", 1, x.change(2, 3, 0, 1, 7));
        Check.letter("10: in the next run", x, 0, TABLE, 3, 2, 2, 2);
        Check.content("10: still as cheap", x, 0, 0, 0);
        Check.same("17: that one's own", 1, x.tables());
        Check.same("11: not done", 0, x.done());
        Check.same("13: not done", NONE, x.total());
        Check.same("12: settled in the run before", NONE, x.value(1));
        Check.thrown("10: not done", Check.STATE, () -> x.change(2, 3, 0, 0, 7));
        x.letter(0, 0);
        Check.letter("upwards", x, 0, TABLE, 2, 1, 2, 2);
        Check.same("17: one more", 2, x.tables());
        x.letter(0, 0);
        Check.same("17: the root's", 3, x.tables());
        Check.letter("downwards", x, 0, CHOICE, 1, 2, 2, 1);
        Check.letter("downwards to the other child too", x, 1, CHOICE, 1, 0, 2, 1);
        Check.same("12: the root is settled again", 0, x.value(1));
        Check.same("12: the others are not", NONE, x.value(2));
        Check.deliverAll(x);
        Check.same("11: done()", 1, x.done());
        Check.same("17: not that of 0", 3, x.tables());
        Check.same("10: turned round", 1, x.change(3, 2, 0, 0, 8));
        Check.content("10: the least of two", x, 0, 7, 0);
        Check.deliverAll(x);
        Check.same("12: value(2) goes out of the way", 1, x.value(2));
        Check.same("12: value(3)", 0, x.value(3));
        Check.same("10: to what it was", 1, x.change(0, 1, 0, 0, 0));
        Check.letter("10: of 0, the fourth run", x, 0, TABLE, 0, 1, 4, 2);
        Check.deliverAll(x);
        Check.same("17: of 0 and the root", 2, x.tables());
        Check.same("9: the latest of each", 2, x.again(3));
        Check.letter("9: its table is of the third run", x, 1, TABLE, 3, 2, 3, 2);
    }

    /** Tables under way from runs before are nothing, and stay as they were. */
    private static void earlierTables() {
        BargainTree x = chainDone();
        x.again(3);
        x.letter(0, 1);
        Check.letter("of the first run", x, 0, TABLE, 3, 2, 1, 2);
        Check.same("10: change", 2, x.change(2, 3, 1, 0, 5));
        x.letter(1, 0);
        Check.letter("of the first run", x, 0, TABLE, 3, 2, 1, 2);
        Check.same("it comes too late", 1, x.letter(0, 0));
        Check.same("17: and makes none", 2, x.tables());
        Check.deliverAll(x);
        Check.same("10: change", 1, x.change(2, 3, 1, 1, 6));
        x.letter(0, 2);
        Check.content("the first entry is free, the second costs", x, 0, 0, 5);
        x.letter(0, 0);
        Check.same("its double comes too late", 1, x.letter(0, 0));
        Check.deliverAll(x);
        x.change(2, 3, 1, 1, 0);
        x.letter(0, 2);
        x.letter(0, 0);
        Check.letter("a double of the fourth run", x, 0, TABLE, 3, 2, 4, 2);
        Check.letter("of 2", x, 1, TABLE, 2, 1, 4, 2);
        for (int i = 0; i < 9; i++) {
            if (Check.lettersOf(x) > 1) {
                x.letter(1, 0);
            }
        }
        Check.same("11: done with one under way", 1, x.done());
        Check.same("10: change with one under way", 2, x.change(2, 3, 1, 1, 9));
        Check.content("the earlier one is as it was", x, 0, 0, 0);
        Check.content("the later one", x, 1, 0, 5);
    }

    private static void toNoneAndBack() {
        BargainTree x = Check.problem(2, 2, 2);
        Check.join(x, "0-1 1-2");
        x.own(0, 1, NEVER);
        x.own(1, 1, NEVER);
        x.start();
        Check.deliverAll(x);
        Check.same("13: total()", 0, x.total());
        x.change(0, 1, 0, 0, NEVER);
        Check.content("10: never", x, 0, NEVER, 0);
        Check.deliverAll(x);
        Check.same("11: none", 2, x.done());
        Check.same("13: none", NONE, x.total());
        for (int a = 0; a < 3; a++) {
            Check.same("12: settled in the run before", NONE, x.value(a));
        }
        Check.same("9: by the run it is settled in", 2, x.again(1));
        Check.letter("9: the first", x, 0, CHOICE, 1, 0, 1, 1);
        Check.deliverAll(x);
        Check.same("11: none", 2, x.done());
        Check.same("10: a change when there is none", 1, x.change(1, 2, 0, 0, 3));
        Check.letter("10: the third run", x, 0, TABLE, 2, 1, 3, 2);
        Check.same("11: not done", 0, x.done());
        Check.deliverAll(x);
        Check.same("11: still none", 2, x.done());
        x.change(0, 1, 0, 0, 11);
        Check.deliverAll(x);
        Check.same("11: done()", 1, x.done());
        Check.same("13: total()", 11, x.total());
        Check.same("12: value(2)", 1, x.value(2));
        x.again(1);
        Check.letter("9: the fourth run", x, 0, CHOICE, 1, 0, 4, 1);
    }

    private static void runsOfParts() {
        BargainTree x = Check.problem(2, 2, 2, 2);
        Check.join(x, "0-1 2-3");
        x.start();
        Check.deliverAll(x);
        x.change(2, 3, 0, 0, 1);
        Check.same("12: another part stays settled", 0, x.value(0));
        Check.same("12: this one does not", NONE, x.value(2));
        Check.deliverAll(x);
        Check.same("13: total()", 0, x.total());
        Check.same("10: change", 1, x.change(0, 1, 0, 0, 1));
        Check.letter("10: the second run of its part", x, 0, TABLE, 1, 0, 2, 2);
        Check.deliverAll(x);
        x.change(2, 3, 0, 0, 1);
        Check.letter("10: the third run of its part", x, 0, TABLE, 3, 2, 3, 2);
    }

    private static void fullRow() {
        BargainTree x = chainDone();
        x.again(0);
        for (int i = 0; i < 18; i++) {
            x.letter(0, 2);
        }
        Check.same("10: its table is lost", 20, x.change(0, 1, 0, 0, 4));
        Check.same("17: but made", 1, x.tables());
        Check.deliverAll(x);
        Check.same("11: not done", 0, x.done());
        x.again(0);
        Check.letter("9: its table", x, 1, TABLE, 0, 1, 2, 2);
        Check.deliverAll(x);
        Check.same("11: done()", 1, x.done());
        Check.same("12: value(0)", 1, x.value(0));
    }
}
