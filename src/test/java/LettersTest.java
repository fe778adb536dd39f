/** Promises 7, 8 and 9: the row of letters, its bound, and letters that are sent again. */
public final class LettersTest {
    private static final int NONE = BargainTree.NONE;
    private static final int TOKEN = 0;
    private static final int BACK = 1;
    private static final int TABLE = 2;
    private static final int CHOICE = 3;

    public static void main(String[] args) {
        wrongArguments();
        toldOfNothing();
        fullRow();
        sentInAFullRow();
        againInOrder();
        againWrong();
        Check.end();
    }

    private static BargainTree twoStarted() {
        BargainTree x = Check.problem(2, 3);
        x.pair(0, 1);
        x.start();
        return x;
    }

    private static void wrongArguments() {
        BargainTree x = twoStarted();
        for (int action : new int[] {Integer.MIN_VALUE, -1, 3, Integer.MAX_VALUE}) {
            Check.thrown("7: action " + action, Check.ARGUMENT, () -> x.letter(0, action));
            Check.thrown("7: action before letter", Check.ARGUMENT, () -> x.letter(1, action));
        }
        for (int k : new int[] {Integer.MIN_VALUE, -1, 1, 19, 20, Integer.MAX_VALUE}) {
            for (int action = 0; action <= 2; action++) {
                int which = action;
                Check.thrown("7: letter " + k, Check.INDEX, () -> x.letter(k, which));
            }
        }
        Check.same("7: nothing happened", 1, Check.lettersOf(x));
        BargainTree open = Check.problem(2);
        Check.thrown("7: open", Check.INDEX, () -> open.letter(0, 0));
    }

    private static void toldOfNothing() {
        BargainTree x = twoStarted();
        for (int what : new int[] {Integer.MIN_VALUE, -1, 5, 9, 10, 17, 18, 266, Integer.MAX_VALUE}) {
            Check.same("8: told(0, " + what + ")", NONE, x.told(0, what));
        }
        for (int k : new int[] {Integer.MIN_VALUE, -1, 1, 19, 20, Integer.MAX_VALUE}) {
            Check.same("8: told(" + k + ", 0)", NONE, x.told(k, 0));
            Check.same("8: told(" + k + ", 4)", NONE, x.told(k, 4));
        }
        x.letter(0, 0);
        Check.letter("8: a table", x, 1, TABLE, 1, 0, 1, 2);
        for (int what : new int[] {Integer.MIN_VALUE, -1, 5, 9, 12, Integer.MAX_VALUE}) {
            Check.same("8: of a table, told(1, " + what + ")", NONE, x.told(1, what));
        }
        Check.deliverAll(x);
        x.again(0);
        Check.letter("8: a choice", x, 0, CHOICE, 0, 1, 1, 1);
        for (int what : new int[] {Integer.MIN_VALUE, -1, 5, 9, 11, 12, 17, 18, Integer.MAX_VALUE}) {
            Check.same("8: of a choice, told(0, " + what + ")", NONE, x.told(0, what));
        }
        Check.same("8: the value of agent 0", 0, x.told(0, 10));
    }

    private static void fullRow() {
        BargainTree x = twoStarted();
        for (int n = 2; n <= 20; n++) {
            Check.same("7: doubled", n, x.letter(0, 2));
        }
        Check.thrown("7: a twenty-first", Check.STATE, () -> x.letter(19, 2));
        Check.thrown("7: no such letter to double", Check.INDEX, () -> x.letter(20, 2));
        Check.thrown("7: no such action", Check.ARGUMENT, () -> x.letter(0, 3));
        Check.same("9: what is sent now is lost", 20, x.again(0));
        Check.same("7: delivered; back is the twentieth, the table is lost", 20, x.letter(0, 0));
        Check.letter("the last one", x, 19, BACK, 1, 0, 3, 0);
        Check.same("16: it made its table", 2, x.entries(1));
        Check.same("7: back is sent again", 20, x.letter(0, 0));
        Check.letter("the last one", x, 19, BACK, 1, 0, 3, 0);
        Check.deliverAll(x);
        Check.same("11: the root lacks the table", 0, x.done());
        Check.same("9: back and table", 2, x.again(1));
        Check.letter("back", x, 0, BACK, 1, 0, 3, 0);
        Check.letter("table", x, 1, TABLE, 1, 0, 1, 2);
        Check.deliverAll(x);
        Check.same("11: done()", 1, x.done());
    }

    /** Letters that find the row full are lost, those before them are not. */
    private static void sentInAFullRow() {
        BargainTree x = Check.problem(2, 2, 2, 2);
        Check.join(x, "0-1 0-2 0-3");
        x.start();
        Check.deliverAll(x);
        for (int n = 1; n <= 6; n++) {
            Check.same("9: three choices", 3 * n, x.again(0));
        }
        Check.same("9: two are sent, one is lost", 20, x.again(0));
        Check.letter("to 1", x, 18, CHOICE, 0, 1, 1, 1);
        Check.letter("to 2", x, 19, CHOICE, 0, 2, 1, 1);
    }

    private static void againInOrder() {
        BargainTree x = Check.problem(2, 2, 2, 2);
        Check.join(x, "0-1 1-2 1-3");
        x.own(1, 0, 1);
        x.start();
        Check.same("9: one that had no token sends nothing", 1, x.again(2));
        Check.same("9: one that waits", 2, x.again(1));
        Check.letter("9: its token", x, 1, TOKEN, 1, 0, 2, 0);
        x.letter(1, 1);
        x.letter(0, 0);
        Check.same("9: back and table", 4, x.again(0));
        Check.letter("9: back", x, 2, BACK, 0, 1, 3, 0);
        Check.letter("9: table", x, 3, TABLE, 0, 1, 1, 2);
        Check.deliverAll(x);
        Check.same("9: the root sends choices alone", 3, x.again(1));
        for (int k = 0; k < 3; k++) {
            Check.letter("9: in the order of the children", x, k, CHOICE, 1, k == 0 ? 0 : k + 1, 1, 1);
            Check.content("9: the values", x, k, NONE, 1, NONE, NONE, NONE, NONE, NONE, NONE);
        }
        x.letter(0, 1);
        Check.same("9: a leaf sends no choice", 4, x.again(3));
        Check.letter("9: back", x, 2, BACK, 3, 1, 15, 0);
        Check.letter("9: table", x, 3, TABLE, 3, 1, 1, 2);
        Check.deliverAll(x);
        Check.same("17: nothing was made anew", 4, x.tables());
        Check.same("11: done()", 1, x.done());
    }

    private static void againWrong() {
        BargainTree x = Check.problem(2, 2);
        x.pair(0, 1);
        Check.thrown("9: open", Check.STATE, () -> x.again(0));
        Check.thrown("9: open, no such agent", Check.ARGUMENT, () -> x.again(2));
        x.start();
        for (int a : new int[] {Integer.MIN_VALUE, -1, 2, 8, Integer.MAX_VALUE}) {
            Check.thrown("9: no such agent", Check.ARGUMENT, () -> x.again(a));
        }
        Check.same("9: nothing was sent", 1, Check.lettersOf(x));
    }
}
