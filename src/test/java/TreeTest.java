/** Promises 7, 8, 14 and 15: tokens make the tree, whatever happens to the letters. */
public final class TreeTest {
    private static final int NONE = BargainTree.NONE;
    private static final int TOKEN = 0;
    private static final int BACK = 1;
    private static final int TABLE = 2;

    public static void main(String[] args) {
        square();
        doubledLetters();
        lostLetters();
        lateBack();
        rootWithMostNeighbours();
        rootOfAsMany();
        rootOfEachPart();
        rootAlone();
        childWithMostNeighbours();
        childOfAsMany();
        neighboursInTheMaskCount();
        cycle();
        tokenOnlyOnce();
        noSuchAgent();
        Check.end();
    }

    /** A square 0 1 2 3 with the diagonal 1-3: the tree is 1, 3 below it, 0 and 2 below that. */
    private static BargainTree squareStarted() {
        BargainTree x = Check.problem(2, 2, 2, 2);
        Check.join(x, "0-1 1-2 2-3 3-0 1-3");
        Check.same("14: before the start", NONE, x.parent(1));
        Check.same("6: parts", 1, x.start());
        return x;
    }

    private static void square() {
        BargainTree x = squareStarted();
        Check.letter("the root's token", x, 0, TOKEN, 1, 3, 0b0010, 0);
        Check.content("8: a token has no entries", x, 0);
        Check.same("14: no token yet", NONE, x.parent(3));
        Check.same("15: waits", NONE, x.separator(1));
        Check.same("7: letter", 1, x.letter(0, 0));
        Check.same("14: who sent the token", 1, x.parent(3));
        Check.same("15: waits", NONE, x.separator(3));
        Check.letter("to the lesser number", x, 0, TOKEN, 3, 0, 0b1010, 0);
        Check.same("7: letter", 2, x.letter(0, 0));
        Check.same("14: parent(0)", 3, x.parent(0));
        Check.same("15: its ancestors", 0b1010, x.separator(0));
        Check.letter("back", x, 0, BACK, 0, 3, 0b1011, 0);
        Check.content("8: a back has no entries", x, 0);
        Check.letter("then the table", x, 1, TABLE, 0, 3, 1, 4);
        Check.same("7: letter", 2, x.letter(0, 0));
        Check.letter("the next child", x, 1, TOKEN, 3, 2, 0b1011, 0);
        Check.same("7: letter", 3, x.letter(1, 0));
        Check.same("14: parent(2)", 3, x.parent(2));
        Check.same("15: separator(2)", 0b1010, x.separator(2));
        Check.letter("back with all", x, 1, BACK, 2, 3, 0b1111, 0);
        Check.same("7: letter", 3, x.letter(1, 0));
        Check.same("15: through without tables", 0b0010, x.separator(3));
        Check.same("15: the root still waits", NONE, x.separator(1));
        Check.letter("back to the root", x, 2, BACK, 3, 1, 0b1111, 0);
        Check.same("7: a root sends no back", 2, x.letter(2, 0));
        Check.same("15: a root's", 0, x.separator(1));
        Check.same("14: a root's", NONE, x.parent(1));
        Check.deliverAll(x);
        Check.same("11: done()", 1, x.done());
    }

    /**
     * "TOKEN to an agent that is through, from its parent: BACK is sent again, as it was. TOKEN to any other one that
     * had it: nothing. BACK from the child that is waited for: its mask is the mask from then on, and the agent holds.
     * Any other BACK: nothing."
     */
    private static void doubledLetters() {
        BargainTree x = squareStarted();
        Check.same("7: doubled", 2, x.letter(0, 2));
        Check.letter("7: one more like it", x, 1, TOKEN, 1, 3, 0b0010, 0);
        Check.same("7: the first one", 2, x.letter(0, 0));
        Check.same("7: a token to one that waits", 1, x.letter(0, 0));
        Check.letter("3 asks 0", x, 0, TOKEN, 3, 0, 0b1010, 0);
        x.letter(0, 2);
        x.letter(0, 0);
        Check.same("7: a token to one that is through", 3, x.letter(0, 0));
        Check.letter("the first back", x, 0, BACK, 0, 3, 0b1011, 0);
        Check.letter("no second table", x, 2, BACK, 0, 3, 0b1011, 0);
        Check.same("7: back", 3, x.letter(2, 0));
        Check.letter("3 asks 2", x, 2, TOKEN, 3, 2, 0b1011, 0);
        Check.same("7: back of one that is not waited for", 2, x.letter(0, 0));
        Check.same("15: 3 still waits", NONE, x.separator(3));
        x.letter(1, 0);
        Check.letter("2 is through", x, 1, BACK, 2, 3, 0b1111, 0);
        x.letter(1, 2);
        x.letter(1, 0);
        Check.same("15: 3 is through", 0b0010, x.separator(3));
        Check.same("7: back to one that is through", 3, x.letter(2, 0));
        Check.deliverAll(x);
        Check.same("11: done()", 1, x.done());
        Check.same("17: each table once", 4, x.tables());
    }

    private static void lostLetters() {
        BargainTree x = squareStarted();
        Check.same("7: lost", 0, x.letter(0, 1));
        Check.same("14: nothing came", NONE, x.parent(3));
        Check.same("9: once more", 1, x.again(1));
        Check.letter("9: the token", x, 0, TOKEN, 1, 3, 0b0010, 0);
        x.letter(0, 0);
        x.letter(0, 0);
        Check.same("7: the back is lost", 1, x.letter(0, 1));
        Check.letter("7: the table moves up", x, 0, TABLE, 0, 3, 1, 4);
        Check.same("7: a table from one that is waited for", 0, x.letter(0, 0));
        Check.same("9: the token", 1, x.again(3));
        Check.letter("9: as it was", x, 0, TOKEN, 3, 0, 0b1010, 0);
        Check.same("7: back again", 1, x.letter(0, 0));
        Check.letter("7: as it was", x, 0, BACK, 0, 3, 0b1011, 0);
        Check.deliverAll(x);
        Check.same("11: done()", 1, x.done());
        Check.same("17: tables", 4, x.tables());
    }

    /** A back that comes when another child is waited for must not bring its mask along. */
    private static void lateBack() {
        BargainTree x = Check.problem(2, 2, 2, 2);
        Check.join(x, "0-1 0-2 0-3");
        x.start();
        x.letter(0, 0);
        x.letter(0, 2);
        Check.same("letters", 3, Check.lettersOf(x));
        x.letter(0, 0);
        Check.letter("0 asks 2", x, 2, TOKEN, 0, 2, 0b0011, 0);
        Check.letter("the late back", x, 1, BACK, 1, 0, 0b0011, 0);
        x.letter(2, 0);
        Check.letter("2 is through", x, 2, BACK, 2, 0, 0b0111, 0);
        x.letter(2, 0);
        Check.same("the late back", 3, x.letter(1, 0));
        Check.same("9: the mask is the newest", 4, x.again(0));
        Check.letter("9: 0 asks 3", x, 3, TOKEN, 0, 3, 0b0111, 0);
        Check.deliverAll(x);
        Check.same("11: done()", 1, x.done());
    }

    private static void rootWithMostNeighbours() {
        BargainTree x = Check.problem(2, 2, 2, 2, 2);
        Check.join(x, "0-1 1-4 2-4 3-4 2-3");
        x.start();
        Check.letter("4 has the most; 1, 2, 3 have as many", x, 0, TOKEN, 4, 1, 1 << 4, 0);
        Check.deliverAll(x);
        int[] parents = {1, 4, 4, 2, NONE};
        int[] separators = {0b00010, 0b10000, 0b10000, 0b10100, 0};
        for (int a = 0; a < 5; a++) {
            Check.same("14: parent(" + a + ")", parents[a], x.parent(a));
            Check.same("15: separator(" + a + ")", separators[a], x.separator(a));
        }
    }

    private static void parents(String what, BargainTree x, int... due) {
        for (int a = 0; a < due.length; a++) {
            Check.same("14: " + what + ", parent(" + a + ")", due[a], x.parent(a));
        }
    }

    /** "its ROOT is the one with the most neighbours, of such with as many the one with the least number" */
    private static void rootOfAsMany() {
        BargainTree two = Check.settled(2, "1-0");
        parents("each has one", two, NONE, 0);
        BargainTree last = Check.settled(8, "7-0 7-1 7-2 6-0 6-1 6-3 5-4 5-3 4-2");
        parents("6 and 7 have three", last, 6, 7, 7, 5, 2, 4, NONE, 0);
        BargainTree more = Check.settled(8, "7-0 7-1 7-2 6-0 6-1 6-3 5-4 5-3 4-2 7-5");
        parents("7 has one more", more, 6, 6, 4, 5, 5, 7, 3, NONE);
    }

    /** A root is that of its part: one with more neighbours in another part is nothing to it. */
    private static void rootOfEachPart() {
        BargainTree x = Check.settled(8, "0-1 2-3 3-4 5-6 5-7 6-7");
        parents("three parts", x, NONE, 0, 3, NONE, 3, NONE, 5, 6);
    }

    /** "a root's: none"; "it sends BACK with the mask to its parent (a root nothing)" */
    private static void rootAlone() {
        BargainTree x = Check.problem(2);
        Check.same("15: open, it is not through", NONE, x.separator(0));
        x.start();
        Check.same("14: a root has no parent", NONE, x.parent(0));
        Check.same("15: nor ancestors", 0, x.separator(0));
        Check.same("8: it sends nothing", NONE, x.told(0, 0));
    }

    /** "a neighbour that is not in the mask: the one with the most neighbours" */
    private static void childWithMostNeighbours() {
        BargainTree x = Check.started(8, "0-1 0-2 0-3 0-4 3-5 2-6 2-7");
        Check.letter("2 has three, 3 has two", x, 0, TOKEN, 0, 2, 1, 0);
        Check.deliverAll(x);
        parents("a tree", x, NONE, 0, 0, 0, 0, 3, 2, 2);
        int[] children = {2, 3, 1, 4};
        x.again(0);
        for (int k = 0; k < 4; k++) {
            Check.same("9: in the order in which they became children", children[k], x.told(k, 2));
        }
    }

    /** "(of such with as many the one with the least number)" */
    private static void childOfAsMany() {
        BargainTree x = Check.started(8, "7-6 7-5 7-4 7-3 7-2 7-1 7-0");
        for (int child = 0; child < 7; child++) {
            Check.letter("the least one", x, child, TOKEN, 7, child, 128 | (1 << child) - 1, 0);
            Check.same("7: back and table", child + 2, x.letter(child, 0));
            Check.same("15: it is through", 128, x.separator(child));
            Check.same("15: the root is not", NONE, x.separator(7));
            Check.letter("back", x, child, BACK, child, 7, 128 | (2 << child) - 1, 0);
            Check.same("7: the next token, if there is one", child == 6 ? 7 : child + 2, x.letter(child, 0));
        }
        Check.same("15: the root is through", 0, x.separator(7));
        Check.deliverAll(x);
        Check.same("9: seven choices", 7, x.again(7));
    }

    /** 2 and 3 have three neighbours each; that two of those of 2 have had the token does not matter. */
    private static void neighboursInTheMaskCount() {
        BargainTree x = Check.started(8, "0-1 0-2 0-5 0-6 1-2 1-3 2-4 3-7 3-5");
        x.letter(0, 0);
        Check.letter("the least of as many", x, 0, TOKEN, 1, 2, 3, 0);
    }

    /** "The SEPARATOR of an agent that is through are its ancestors and all agents of its children's, but itself." */
    private static void cycle() {
        BargainTree x = Check.started(8, "0-1 1-2 2-3 3-4 4-5 5-6 6-7 7-0");
        for (int a = 1; a < 8; a++) {
            Check.letter("the token goes round", x, 0, TOKEN, a - 1, a, (1 << a) - 1, 0);
            Check.same("15: one that waits has none", NONE, x.separator(a - 1));
            x.letter(0, 0);
        }
        Check.same("15: the last one's ancestors", 0b01000001, x.separator(7));
        Check.same("its table is lost", 1, x.letter(1, 1));
        for (int a = 6; a >= 0; a--) {
            Check.letter("back with all", x, 0, BACK, a + 1, a, 255, 0);
            Check.same("15: it waits still", NONE, x.separator(a));
            x.letter(0, 0);
            Check.same("15: through, without a table", a == 0 ? 0 : 1 | 1 << a - 1, x.separator(a));
            Check.same("16: without a table", NONE, x.entries(a));
        }
        Check.same("a root sends no back", NONE, x.told(0, 0));
    }

    /** What is seen of the agents, without the letters. */
    private static String agents(BargainTree x, int count) {
        String all = Check.look(x, count);
        return all.contains("/") ? all.substring(0, all.indexOf('/')) : all;
    }

    /** "An agent that gets the token for the first time": a second time it changes nothing, waiting or through. */
    private static void tokenOnlyOnce() {
        BargainTree through = Check.started(3, "0-1 1-2");
        Check.fill(through, 0, 1, 3);
        through.letter(0, 0);
        String before = agents(through, 3);
        Check.same("7: a token to one that is through", 4, through.letter(0, 0));
        Check.letter("back again, and no table", through, 3, BACK, 0, 1, 3, 0);
        Check.same("the agents stay as they are", before, agents(through, 3));
        BargainTree waits = Check.started(4, "0-1 1-2 2-3");
        waits.letter(0, 2);
        waits.letter(1, 0);
        Check.letter("2 waits for 3", waits, 1, TOKEN, 2, 3, 6, 0);
        before = agents(waits, 4);
        Check.same("7: a token to one that waits", 1, waits.letter(0, 0));
        Check.same("the agents stay as they are", before, agents(waits, 4));
        Check.letter("2 waits for 3 still", waits, 0, TOKEN, 2, 3, 6, 0);
    }

    /** "NONE when it has none, or there is no such agent"; "NONE when it is not through, or there is no such agent" */
    private static void noSuchAgent() {
        for (int agents = 1; agents <= 8; agents++) {
            BargainTree x = new BargainTree();
            for (int a = 0; a < agents; a++) {
                x.agent(2);
            }
            for (int a = 1; a < agents; a++) {
                x.pair(0, a);
            }
            x.start();
            Check.deliverAll(x);
            Check.same("14: of the last one", agents == 1 ? NONE : 0, x.parent(agents - 1));
            Check.same("15: of the last one", agents == 1 ? 0 : 1, x.separator(agents - 1));
            for (int a : Check.outside(0, agents - 1)) {
                Check.same("14: parent(" + a + ")", NONE, x.parent(a));
                Check.same("15: separator(" + a + ")", NONE, x.separator(a));
            }
        }
    }
}
