/** Promises 7, 8, 14 and 15: tokens make the tree, whatever happens to the letters. */
public final class TreeTest {
    private static final int NONE = BargainTree.NONE;
    private static final int TOKEN = 0;
    private static final int BACK = 1;
    private static final int TABLE = 2;

    public static void main(String[] args) {
        square();
        doubledLetters();
        lostLetters();
        lateBack();
        rootWithMostNeighbours();
        Check.end();
    }

    /** A square 0 1 2 3 with the diagonal 1-3: the tree is 1, 3 below it, 0 and 2 below that. */
    private static BargainTree squareStarted() {
        BargainTree x = Check.problem(2, 2, 2, 2);
        Check.join(x, "0-1 1-2 2-3 3-0 1-3");
        Check.same("14: before the start", NONE, x.parent(1));
        Check.same("6: parts", 1, x.start());
        return x;
    }

    private static void square() {
        BargainTree x = squareStarted();
        Check.letter("the root's token", x, 0, TOKEN, 1, 3, 0b0010, 0);
        Check.content("8: a token has no entries", x, 0);
        Check.same("14: no token yet", NONE, x.parent(3));
        Check.same("15: waits", NONE, x.separator(1));
        Check.same("7: letter", 1, x.letter(0, 0));
        Check.same("14: who sent the token", 1, x.parent(3));
        Check.same("15: waits", NONE, x.separator(3));
        Check.letter("to the lesser number", x, 0, TOKEN, 3, 0, 0b1010, 0);
        Check.same("7: letter", 2, x.letter(0, 0));
        Check.same("14: parent(0)", 3, x.parent(0));
        Check.same("15: its ancestors", 0b1010, x.separator(0));
        Check.letter("back", x, 0, BACK, 0, 3, 0b1011, 0);
        Check.content("8: a back has no entries", x, 0);
        Check.letter("then the table", x, 1, TABLE, 0, 3, 1, 4);
        Check.same("7: letter", 2, x.letter(0, 0));
        Check.letter("the next child", x, 1, TOKEN, 3, 2, 0b1011, 0);
        Check.same("7: letter", 3, x.letter(1, 0));
        Check.same("14: parent(2)", 3, x.parent(2));
        Check.same("15: separator(2)", 0b1010, x.separator(2));
        Check.letter("back with all", x, 1, BACK, 2, 3, 0b1111, 0);
        Check.same("7: letter", 3, x.letter(1, 0));
        Check.same("15: through without tables", 0b0010, x.separator(3));
        Check.same("15: the root still waits", NONE, x.separator(1));
        Check.letter("back to the root", x, 2, BACK, 3, 1, 0b1111, 0);
        Check.same("7: a root sends no back", 2, x.letter(2, 0));
        Check.same("15: a root's", 0, x.separator(1));
        Check.same("14: a root's", NONE, x.parent(1));
        Check.deliverAll(x);
        Check.same("11: done()", 1, x.done());
        for (int a : new int[] {Integer.MIN_VALUE, -1, 4, 8, Integer.MAX_VALUE}) {
            Check.same("14: no such agent", NONE, x.parent(a));
            Check.same("15: no such agent", NONE, x.separator(a));
        }
    }

    private static void doubledLetters() {
        BargainTree x = squareStarted();
        Check.same("7: doubled", 2, x.letter(0, 2));
        Check.letter("7: one more like it", x, 1, TOKEN, 1, 3, 0b0010, 0);
        Check.same("7: the first one", 2, x.letter(0, 0));
        Check.same("7: a token to one that waits", 1, x.letter(0, 0));
        Check.letter("3 asks 0", x, 0, TOKEN, 3, 0, 0b1010, 0);
        x.letter(0, 2);
        x.letter(0, 0);
        Check.same("7: a token to one that is through", 3, x.letter(0, 0));
        Check.letter("the first back", x, 0, BACK, 0, 3, 0b1011, 0);
        Check.letter("no second table", x, 2, BACK, 0, 3, 0b1011, 0);
        Check.same("7: back", 3, x.letter(2, 0));
        Check.letter("3 asks 2", x, 2, TOKEN, 3, 2, 0b1011, 0);
        Check.same("7: back of one that is not waited for", 2, x.letter(0, 0));
        Check.same("15: 3 still waits", NONE, x.separator(3));
        x.letter(1, 0);
        Check.letter("2 is through", x, 1, BACK, 2, 3, 0b1111, 0);
        x.letter(1, 2);
        x.letter(1, 0);
        Check.same("15: 3 is through", 0b0010, x.separator(3));
        Check.same("7: back to one that is through", 3, x.letter(2, 0));
        Check.deliverAll(x);
        Check.same("11: done()", 1, x.done());
        Check.same("17: each table once", 4, x.tables());
    }

    private static void lostLetters() {
        BargainTree x = squareStarted();
        Check.same("7: lost", 0, x.letter(0, 1));
        Check.same("14: nothing came", NONE, x.parent(3));
        Check.same("9: once more", 1, x.again(1));
        Check.letter("9: the token", x, 0, TOKEN, 1, 3, 0b0010, 0);
        x.letter(0, 0);
        x.letter(0, 0);
        Check.same("7: the back is lost", 1, x.letter(0, 1));
        Check.letter("7: the table moves up", x, 0, TABLE, 0, 3, 1, 4);
        Check.same("7: a table from one that is waited for", 0, x.letter(0, 0));
        Check.same("9: the token", 1, x.again(3));
        Check.letter("9: as it was", x, 0, TOKEN, 3, 0, 0b1010, 0);
        Check.same("7: back again", 1, x.letter(0, 0));
        Check.letter("7: as it was", x, 0, BACK, 0, 3, 0b1011, 0);
        Check.deliverAll(x);
        Check.same("11: done()", 1, x.done());
        Check.same("17: tables", 4, x.tables());
    }

    /** A back that comes when another child is waited for must not bring its mask along. */
    private static void lateBack() {
        BargainTree x = Check.problem(2, 2, 2, 2);
        Check.join(x, "0-1 0-2 0-3");
        x.start();
        x.letter(0, 0);
        x.letter(0, 2);
        Check.same("letters", 3, Check.lettersOf(x));
        x.letter(0, 0);
        Check.letter("0 asks 2", x, 2, TOKEN, 0, 2, 0b0011, 0);
        Check.letter("the late back", x, 1, BACK, 1, 0, 0b0011, 0);
        x.letter(2, 0);
        Check.letter("2 is through", x, 2, BACK, 2, 0, 0b0111, 0);
        x.letter(2, 0);
        Check.same("the late back", 3, x.letter(1, 0));
        Check.same("9: the mask is the newest", 4, x.again(0));
        Check.letter("9: 0 asks 3", x, 3, TOKEN, 0, 3, 0b0111, 0);
        Check.deliverAll(x);
        Check.same("11: done()", 1, x.done());
    }

    private static void rootWithMostNeighbours() {
        BargainTree x = Check.problem(2, 2, 2, 2, 2);
        Check.join(x, "0-1 1-4 2-4 3-4 2-3");
        x.start();
        Check.letter("4 has the most; 1, 2, 3 have as many", x, 0, TOKEN, 4, 1, 1 << 4, 0);
        Check.deliverAll(x);
        int[] parents = {1, 4, 4, 2, NONE};
        int[] separators = {0b00010, 0b10000, 0b10000, 0b10100, 0};
        for (int a = 0; a < 5; a++) {
            Check.same("14: parent(" + a + ")", parents[a], x.parent(a));
            Check.same("15: separator(" + a + ")", separators[a], x.separator(a));
        }
    }
}
