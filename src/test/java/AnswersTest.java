/** Promises 11, 12, 13 and 17: what is answered when something is to be done, is done, or can't be done. */
public final class AnswersTest {
    private static final int NONE = BargainTree.NONE;
    private static final int NEVER = BargainTree.NEVER;
    private static final int TOKEN = 0;
    private static final String WIDE = "0-4 0-2 3-6 1-3 5-7 1-4 2-7 4-6 1-7 2-3 0-5 5-6";

    public static void main(String[] args) {
        open();
        somethingToBeDone();
        nothingUnderWay();
        allSettled();
        settledWithLettersUnderWay();
        rootFoundNone();
        tooWide();
        valueNoSuchAgent();
        valueOfOthers();
        totalIsNothing();
        totalOfAllRoots();
        totalNone();
        tablesSinceTheStart();
        tablesSinceTheChange();
        twoChangesInTwoParts();
        Check.end();
    }

    private static void ends(String what, BargainTree x, int done, int total) {
        Check.same("11: " + what, done, x.done());
        Check.same("13: " + what, total, x.total());
    }

    /** "or the problem is open" */
    private static void open() {
        BargainTree x = new BargainTree();
        ends("a new object", x, 0, NONE);
        x.agent(2);
        ends("an agent", x, 0, NONE);
        x.agent(2);
        x.pair(0, 1);
        ends("a pair", x, 0, NONE);
        Check.costAll(x, 0, 1, NEVER);
        ends("costs", x, 0, NONE);
        Check.same("17: none was made", 0, x.tables());
        Check.same("12: nobody is settled", NONE, x.value(0));
        Check.same("14: nobody has a parent", NONE, x.parent(1));
        Check.same("15: nobody is through", NONE, x.separator(0));
        Check.same("16: nobody made a table", NONE, x.entries(0));
    }

    /** "0 when something is to be done": until the last agent is settled. */
    private static void somethingToBeDone() {
        BargainTree x = Check.started(4, "0-1 1-2 2-3");
        int settled = 0;
        for (int i = 0; i < 30 && settled < 4; i++) {
            ends("not all are settled", x, 0, NONE);
            x.letter(0, 0);
            settled = 0;
            for (int a = 0; a < 4; a++) {
                settled += x.value(a) == NONE ? 0 : 1;
            }
        }
        ends("all are settled", x, 1, 0);
    }

    /** All letters are lost: something is to be done all the same. */
    private static void nothingUnderWay() {
        BargainTree x = Check.started(2, "0-1");
        Check.same("7: lost", 0, x.letter(0, 1));
        ends("the token is lost", x, 0, NONE);
        x.again(0);
        x.letter(0, 0);
        x.letter(0, 1);
        Check.same("7: lost", 0, x.letter(0, 1));
        ends("back and table are lost", x, 0, NONE);
        x.again(1);
        x.letter(0, 0);
        x.letter(0, 0);
        Check.same("7: lost", 0, x.letter(0, 1));
        ends("the choice is lost", x, 0, NONE);
        Check.same("12: the root is settled", 0, x.value(0));
        x.again(0);
        x.letter(0, 0);
        ends("all are settled", x, 1, 0);
    }

    /** "1 when all parts have ended, and all agents are settled" */
    private static void allSettled() {
        BargainTree alone = Check.problem(2);
        alone.start();
        ends("one agent", alone, 1, 0);
        BargainTree x = Check.started(5, "0-1 2-3");
        ends("one part of three", x, 0, NONE);
        x.letter(0, 0);
        Check.letter("the token of 2", x, 0, TOKEN, 2, 3, 4, 0);
        x.letter(1, 0);
        x.letter(1, 0);
        x.letter(1, 0);
        Check.same("12: 1 is settled", 0, x.value(1));
        ends("two parts of three", x, 0, NONE);
        Check.deliverAll(x);
        ends("all parts", x, 1, 0);
    }

    private static void settledWithLettersUnderWay() {
        BargainTree x = Check.settled(2, "0-1");
        x.again(0);
        x.again(1);
        Check.same("letters", 3, Check.lettersOf(x));
        ends("with letters under way", x, 1, 0);
        Check.deliverAll(x);
        ends("they are nothing", x, 1, 0);
    }

    /** "2 when all parts have ended and a root has found none" */
    private static void rootFoundNone() {
        BargainTree x = Check.problem(2, 2, 2, 2);
        x.own(0, 0, NEVER);
        x.own(0, 1, NEVER);
        x.own(3, 0, NEVER);
        x.own(3, 1, NEVER);
        x.pair(1, 2);
        x.start();
        ends("none, but a part has not ended", x, 0, NONE);
        Check.deliverAll(x);
        ends("two of three parts have none", x, 2, NONE);
        Check.same("12: nothing", NONE, x.value(0));
        Check.same("12: settled", 0, x.value(1));
        Check.same("12: settled", 0, x.value(2));
        Check.same("12: nothing", NONE, x.value(3));
        x.change(1, 2, 0, 0, 1);
        ends("a part has not ended in its new run", x, 0, NONE);
        Check.deliverAll(x);
        ends("all have ended", x, 2, NONE);
    }

    /** "3 when an agent is too wide, whatever else is so" */
    private static void tooWide() {
        BargainTree x = Check.problem(4, 4, 3, 3, 2, 2, 2, 2);
        Check.join(x, WIDE);
        for (int v = 0; v < 4; v++) {
            x.own(0, v, NEVER);
        }
        x.start();
        for (int i = 0; i < 40 && x.done() == 0; i++) {
            x.letter(0, 0);
        }
        ends("too wide", x, 3, NONE);
        for (int a = 0; a < 8; a++) {
            Check.same("12: nobody is settled", NONE, x.value(a));
        }
        for (int a = 0; a < 8; a++) {
            x.again(a);
        }
        ends("with letters under way", x, 3, NONE);
        Check.deliverAll(x);
        ends("and without", x, 3, NONE);
    }

    /** "NONE for others": there is no such agent */
    private static void valueNoSuchAgent() {
        for (int agents = 1; agents <= 8; agents++) {
            BargainTree x = new BargainTree();
            for (int a = 0; a < agents; a++) {
                x.agent(2);
            }
            x.start();
            Check.same("12: the first one there is", 0, x.value(0));
            Check.same("12: the last one there is", 0, x.value(agents - 1));
            for (int a : Check.outside(0, agents - 1)) {
                Check.same("12: value(" + a + ")", NONE, x.value(a));
            }
        }
    }

    /** "The value of an agent that is settled in its part's run" */
    private static void valueOfOthers() {
        BargainTree x = Check.settled(3, "0-1");
        for (int a = 0; a < 3; a++) {
            Check.same("12: settled", 0, x.value(a));
        }
        x.change(0, 1, 0, 0, 2);
        Check.same("12: settled in the run before", NONE, x.value(0));
        Check.same("12: settled in the run before", NONE, x.value(1));
        Check.same("12: its part's run is still the first", 0, x.value(2));
        x.letter(0, 0);
        Check.same("12: the root is settled in this run", 0, x.value(0));
        Check.same("12: the other one is not", NONE, x.value(1));
        x.letter(0, 0);
        Check.same("12: now it is", 1, x.value(1));
    }

    /** A total of 0 is a total. */
    private static void totalIsNothing() {
        BargainTree x = Check.problem(2, 2);
        x.own(0, 0, 999);
        x.own(1, 1, 999);
        x.start();
        ends("nothing", x, 1, 0);
        Check.same("12: value(0)", 1, x.value(0));
        Check.same("12: value(1)", 0, x.value(1));
    }

    /** "the sum of the entries of all roots" */
    private static void totalOfAllRoots() {
        BargainTree x = Check.problem(2, 2, 2, 2, 2, 2, 2, 2);
        for (int a = 0; a < 8; a++) {
            x.own(a, 0, 999);
            x.own(a, 1, a == 7 ? NEVER : 999);
        }
        x.start();
        ends("eight roots", x, 1, 8 * 999);
    }

    /** "NONE when done() is not 1." */
    private static void totalNone() {
        BargainTree x = Check.problem(2, 2, 2);
        x.pair(0, 1);
        x.own(2, 0, 5);
        x.own(2, 1, 5);
        x.start();
        ends("done() is 0", x, 0, NONE);
        Check.deliverAll(x);
        ends("done() is 1", x, 1, 5);
        for (int v = 0; v < 4; v++) {
            ends("done() is 1", x, 1, 5);
            x.change(0, 1, v / 2, v % 2, NEVER);
            ends("done() is 0", x, 0, NONE);
            Check.deliverAll(x);
        }
        ends("done() is 2", x, 2, NONE);
        x.change(0, 1, 1, 0, 7);
        ends("done() is 0", x, 0, NONE);
        Check.deliverAll(x);
        ends("done() is 1", x, 1, 12);
    }

    /** "How many tables were made since the start" */
    private static void tablesSinceTheStart() {
        BargainTree x = Check.problem(2, 2, 2);
        x.pair(0, 1);
        Check.same("17: open", 0, x.tables());
        x.start();
        Check.same("17: that of the root alone", 1, x.tables());
        x.letter(0, 0);
        Check.same("17: that of 1", 2, x.tables());
        x.letter(0, 0);
        Check.same("17: back makes none", 2, x.tables());
        x.again(1);
        Check.same("17: nor does again", 2, x.tables());
        x.letter(0, 0);
        Check.same("17: the root's", 3, x.tables());
        Check.deliverAll(x);
        Check.same("17: no more", 3, x.tables());
    }

    /** "or since the latest change (that one's own counts)" */
    private static void tablesSinceTheChange() {
        BargainTree x = Check.settled(4, "0-1 1-2 2-3");
        Check.same("17: four", 4, x.tables());
        Check.thrown("10: no such pair", Check.ARGUMENT, () -> x.change(0, 3, 0, 0, 1));
        Check.same("17: what is refused is no change", 4, x.tables());
        x.change(2, 3, 0, 0, 1);
        Check.same("17: its own", 1, x.tables());
        Check.thrown("10: not done", Check.STATE, () -> x.change(2, 3, 0, 0, 1));
        Check.same("17: what is refused is no change", 1, x.tables());
        x.letter(0, 0);
        Check.same("17: on the way to the root", 2, x.tables());
        x.letter(0, 0);
        Check.same("17: the root's", 3, x.tables());
        Check.deliverAll(x);
        Check.same("17: no more", 3, x.tables());
        x.change(0, 1, 0, 0, 1);
        Check.same("17: its own", 1, x.tables());
    }

    /** A change counts for all parts, a run for its own part alone. */
    private static void twoChangesInTwoParts() {
        BargainTree x = Check.settled(4, "0-1 2-3");
        x.change(0, 1, 0, 0, 1);
        Check.deliverAll(x);
        Check.same("17: two", 2, x.tables());
        x.change(3, 2, 0, 0, 1);
        Check.same("17: one since the latest", 1, x.tables());
        Check.letter("10: the second run of its part", x, 0, 2, 3, 2, 2, 2);
        Check.same("12: the other part stays settled", 0, x.value(0));
    }
}
