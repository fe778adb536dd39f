/** Promises 8, 11, 16 and 17: tables of least costs, their order, and those that are too wide. */
public final class TablesTest {
    private static final int NONE = BargainTree.NONE;
    private static final int NEVER = BargainTree.NEVER;
    private static final int BACK = 1;
    private static final int TABLE = 2;
    /** Its tree is a path: 0, 2, 3, 1, 4, 6, 5, 7; agent 6 has 0, 1, 2, 3 and 4 as its separator. */
    private static final String WIDE = "0-4 0-2 3-6 1-3 5-7 1-4 2-7 4-6 1-7 2-3 0-5 5-6";

    public static void main(String[] args) {
        orderOfEntries();
        leastOverOwnValues();
        childrensTables();
        neverIfAllAre();
        throughAndAllTables();
        tooWide();
        tooWideAtBack();
        justWideEnough();
        widths();
        runsOfTables();
        runsAreOne();
        noSuchAgent();
        Check.end();
    }

    /** Agent 2 of a triangle: below 0 with 2 values and 1 with 3 values. */
    private static void orderOfEntries() {
        BargainTree x = Check.problem(2, 3, 2);
        Check.join(x, "0-1 1-2 0-2");
        x.own(2, 1, NEVER);
        for (int v = 0; v < 3; v++) {
            x.cost(1, 2, v, 0, 10 * v);
            x.cost(0, 2, v % 2, 0, v % 2);
        }
        x.start();
        x.letter(0, 0);
        Check.same("16: no table yet", NONE, x.entries(2));
        x.letter(0, 0);
        Check.letter("a table", x, 1, TABLE, 2, 1, 1, 6);
        Check.content("the least number goes fastest", x, 1, 0, 1, 10, 11, 20, 21);
        Check.same("16: entries", 6, x.entries(2));
        Check.same("16: not made yet", NONE, x.entries(1));
        Check.same("17: tables", 1, x.tables());
    }

    /** "NEVER if all are"; an assignment "costs the sum .. or NEVER, if one of them is that" */
    private static void neverIfAllAre() {
        BargainTree x = Check.problem(4, 2);
        x.pair(0, 1);
        x.own(1, 0, NEVER);
        x.own(1, 1, 999);
        x.cost(0, 1, 0, 1, 999);
        x.cost(0, 1, 1, 0, 0);
        x.cost(0, 1, 1, 1, NEVER);
        x.cost(0, 1, 2, 1, 0);
        x.cost(0, 1, 3, 0, NEVER);
        x.cost(0, 1, 3, 1, NEVER);
        x.own(0, 2, NEVER);
        x.start();
        x.letter(0, 0);
        Check.content("one is never, or all are", x, 1, 1998, NEVER, 999, NEVER);
        Check.deliverAll(x);
        Check.same("13: total()", 1998, x.total());
        Check.same("12: the root has but one that is not never", 0, x.value(0));
    }

    /** "An agent that is through and has tables of all its children makes its own" */
    private static void throughAndAllTables() {
        BargainTree all = Check.started(4, "0-1 1-2 2-3");
        all.letter(0, 0);
        all.letter(0, 0);
        Check.same("the table of 3 is taken", 1, all.letter(1, 0));
        Check.same("16: but 2 waits still", NONE, all.entries(2));
        Check.same("17: so it makes none", 1, all.tables());
        Check.same("then it is through", 2, all.letter(0, 0));
        Check.same("16: and makes its own", 2, all.entries(2));
        Check.letter("back first", all, 0, BACK, 2, 1, 14, 0);
        Check.letter("then the table", all, 1, TABLE, 2, 1, 1, 2);
        BargainTree one = Check.started(4, "0-1 0-2 0-3");
        for (int k : new int[] {0, 0, 1, 1, 2, 2}) {
            one.letter(k, 0);
        }
        Check.same("15: the root is through", 0, one.separator(0));
        for (int left = 2; left >= 1; left--) {
            Check.same("one table comes", left, one.letter(0, 0));
            Check.same("16: not all yet", NONE, one.entries(0));
        }
        Check.same("the last one comes", 3, one.letter(0, 0));
        Check.same("16: all are there", 1, one.entries(0));
        Check.same("17: four in all", 4, one.tables());
    }

    private static void leastOverOwnValues() {
        BargainTree x = Check.problem(4, 3);
        x.pair(0, 1);
        int[][] costs = {{5, 1, 9}, {NEVER, 0, 3}, {NEVER, NEVER, 7}, {NEVER, 4, NEVER}};
        x.own(1, 0, 2);
        x.own(1, 1, NEVER);
        x.own(1, 2, 1);
        for (int v = 0; v < 4; v++) {
            for (int w = 0; w < 3; w++) {
                x.cost(0, 1, v, w, costs[v][w]);
            }
        }
        x.start();
        x.letter(0, 0);
        Check.letter("a table", x, 1, TABLE, 1, 0, 1, 4);
        Check.content("the least", x, 1, 7, 4, 8, NEVER);
        Check.deliverAll(x);
        Check.same("16: a root's", 1, x.entries(0));
        Check.same("13: total()", 4, x.total());
        Check.same("12: value(0)", 1, x.value(0));
        Check.same("12: value(1)", 2, x.value(1));
    }

    /** The tree is 2 with 0 and 3 below it, and 1 below 0: what 1 says goes up to 2, who adds what 3 says. */
    private static void childrensTables() {
        BargainTree x = Check.problem(2, 2, 2, 2);
        Check.join(x, "0-1 1-2 2-0 2-3");
        x.own(0, 1, 100);
        x.cost(0, 1, 0, 0, 1);
        x.cost(0, 1, 0, 1, 2);
        x.cost(0, 1, 1, 0, 4);
        x.cost(0, 1, 1, 1, 8);
        x.cost(1, 2, 0, 0, 900);
        x.cost(1, 2, 0, 1, 16);
        x.cost(1, 2, 1, 0, 32);
        x.cost(1, 2, 1, 1, 800);
        x.own(3, 0, 5);
        x.own(3, 1, 6);
        x.cost(3, 2, 0, 1, NEVER);
        x.start();
        Check.deliverAll(x);
        x.again(1);
        Check.letter("of 1", x, 1, TABLE, 1, 0, 1, 4);
        Check.content("of 0 and 2", x, 1, 34, 40, 17, 20);
        Check.deliverAll(x);
        x.again(0);
        Check.content("of 2", x, 1, 34, 17);
        Check.deliverAll(x);
        x.again(3);
        Check.content("of 2", x, 1, 5, 6);
        Check.same("13: total()", 23, x.total());
        Check.same("17: tables", 4, x.tables());
    }

    /** "A table would have more than 256 entries: then the agent is TOO WIDE instead, and makes none." */
    private static void tooWide() {
        BargainTree x = Check.problem(4, 4, 4, 3, 2, 2, 2, 2);
        Check.join(x, WIDE);
        x.start();
        for (int i = 0; i < 7; i++) {
            x.letter(0, 0);
        }
        Check.letter("the leaf is through", x, 0, BACK, 7, 5, 255, 0);
        Check.same("16: its table", 32, x.entries(7));
        x.letter(0, 0);
        Check.same("16: 5 lacks the table of 7", NONE, x.entries(5));
        x.letter(1, 0);
        Check.same("15: 6 is through", 31, x.separator(6));
        Check.same("11: but lacks the table of 5", 0, x.done());
        Check.letter("the table of 7", x, 0, TABLE, 7, 5, 1, 32);
        x.letter(0, 0);
        Check.same("16: the table of 5", 128, x.entries(5));
        Check.same("11: 6 lacks it still", 0, x.done());
        Check.deliverAll(x);
        Check.same("11: too wide", 3, x.done());
        Check.same("16: it made none", NONE, x.entries(6));
        Check.same("17: nor does it count", 2, x.tables());
        Check.same("13: total()", NONE, x.total());
        Check.same("12: value(6)", NONE, x.value(6));
        Check.same("9: back alone", 1, x.again(6));
        Check.letter("9: back", x, 0, BACK, 6, 4, 255, 0);
        Check.thrown("10: no change then", Check.STATE, () -> x.change(0, 4, 0, 0, 1));
        Check.thrown("10: wrong arguments first", Check.ARGUMENT, () -> x.change(0, 1, 0, 0, 1));
    }

    private static void justWideEnough() {
        BargainTree x = Check.problem(4, 4, 4, 2, 2, 2, 2, 2);
        Check.join(x, WIDE);
        x.cost(0, 4, 3, 1, 5);
        x.start();
        Check.deliverAll(x);
        Check.same("16: just as wide as may be", 256, x.entries(6));
        Check.same("15: separator(6)", 31, x.separator(6));
        Check.same("11: done()", 1, x.done());
        Check.same("17: tables", 8, x.tables());
        x.again(6);
        Check.same("8: how many", 256, x.told(1, 4));
        Check.same("8: the last entry", 0, x.told(1, 10 + 255));
        Check.same("8: none behind it", NONE, x.told(1, 10 + 256));
    }

    /** Its child's table comes first: then it is too wide as soon as it is through, and sends back for all that. */
    private static void tooWideAtBack() {
        BargainTree x = Check.problem(4, 4, 3, 3, 2, 2, 2, 2);
        Check.join(x, WIDE);
        x.start();
        for (int i = 0; i < 7; i++) {
            x.letter(0, 0);
        }
        x.letter(1, 0);
        x.letter(0, 0);
        Check.letter("the back of 5", x, 0, BACK, 5, 6, 255, 0);
        Check.letter("the table of 5", x, 1, TABLE, 5, 6, 1, 96);
        x.letter(1, 0);
        Check.same("11: 6 waits still", 0, x.done());
        Check.same("15: 6 waits still", NONE, x.separator(6));
        Check.same("7: back", 1, x.letter(0, 0));
        Check.letter("7: back", x, 0, BACK, 6, 4, 255, 0);
        Check.same("15: 6 is through", 31, x.separator(6));
        Check.same("11: too wide", 3, x.done());
        Check.same("16: it made none", NONE, x.entries(6));
        Check.same("17: nor does it count", 2, x.tables());
        Check.deliverAll(x);
        Check.same("15: the root is through", 0, x.separator(0));
        Check.same("11: too wide, whatever else is so", 3, x.done());
        Check.same("17: nobody above it can make one", 2, x.tables());
        Check.same("13: total()", NONE, x.total());
    }

    /** Both sides of 256: what has as many entries is made, what has more is not. */
    private static void widths() {
        int[][] values = {{3, 3, 3, 3, 3}, {4, 4, 4, 2, 2}, {2, 2, 4, 4, 4}, {2, 4, 4, 4, 2}, {2, 4, 4, 3, 3},
            {3, 3, 4, 4, 2}, {3, 3, 3, 3, 4}, {4, 4, 4, 4, 4}};
        int[] widths = {243, 256, 256, 256, 288, 288, 324, 1024};
        for (int i = 0; i < widths.length; i++) {
            int[] v = values[i];
            BargainTree x = Check.problem(v[0], v[1], v[2], v[3], v[4], 2, 2, 2);
            Check.join(x, WIDE);
            x.start();
            Check.deliverAll(x);
            boolean wide = widths[i] > 256;
            Check.same("16: " + widths[i] + " entries", wide ? NONE : widths[i], x.entries(6));
            Check.same("11: " + widths[i] + " entries", wide ? 3 : 1, x.done());
            Check.same("17: " + widths[i] + " entries", wide ? 2 : 8, x.tables());
            Check.same("9: " + widths[i] + " entries", wide ? 1 : 3, x.again(6));
        }
    }

    /** "with a run greater than that of the latest table from it (0, if there was none)" */
    private static void runsOfTables() {
        BargainTree x = Check.settled(2, "0-1");
        x.again(1);
        x.letter(0, 1);
        Check.letter("of the first run", x, 0, TABLE, 1, 0, 1, 2);
        Check.same("a run as great is nothing", 0, x.letter(0, 0));
        Check.same("17: nothing", 2, x.tables());
        x.again(1);
        x.letter(0, 1);
        Check.same("10: both are under way", 2, x.change(0, 1, 0, 0, 3));
        Check.letter("of the second run", x, 1, TABLE, 1, 0, 2, 2);
        Check.same("a greater run: the root chooses", 2, x.letter(1, 0));
        Check.same("17: the root's table", 2, x.tables());
        Check.letter("of the first run", x, 0, TABLE, 1, 0, 1, 2);
        Check.same("a lesser run is nothing", 1, x.letter(0, 0));
        Check.same("17: nothing", 2, x.tables());
        Check.deliverAll(x);
        Check.same("12: by the second run", 1, x.value(1));
    }

    /** "A table is made in a RUN (1 at first)", also when the tables that it needs came before the agent was through. */
    private static void runsAreOne() {
        BargainTree x = Check.started(4, "0-1 1-2 2-3");
        for (int i = 0; i < 20 && x.done() == 0; i++) {
            for (int k = 0; k < 20 && x.told(k, 0) != NONE; k++) {
                if (x.told(k, 0) > BACK) {
                    Check.same("the first run", 1, x.told(k, 3));
                }
            }
            x.letter(Check.lettersOf(x) - 1, 0);
        }
        Check.same("11: done()", 1, x.done());
    }

    /** "NONE when it made none, or there is no such agent." */
    private static void noSuchAgent() {
        for (int agents = 1; agents <= 8; agents++) {
            BargainTree x = new BargainTree();
            for (int a = 0; a < agents; a++) {
                x.agent(3);
            }
            for (int a = 1; a < agents; a++) {
                x.pair(0, a);
            }
            Check.same("16: open", NONE, x.entries(agents - 1));
            x.start();
            Check.same("16: a root alone made one", agents == 1 ? 1 : NONE, x.entries(0));
            Check.deliverAll(x);
            Check.same("16: of the last one", agents == 1 ? 1 : 3, x.entries(agents - 1));
            for (int a : Check.outside(0, agents - 1)) {
                Check.same("16: entries(" + a + ")", NONE, x.entries(a));
            }
        }
    }
}
