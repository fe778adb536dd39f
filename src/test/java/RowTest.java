/**
 * The row of letters: "Letters UNDER WAY are a row of at most 20; one that is sent is the last one, or lost if there
 * are 20." Each test is about one way to send, with a row that has just room enough, and one that has not.
 */
public final class RowTest {
    private static final int NONE = BargainTree.NONE;
    private static final int TOKEN = 0;
    private static final int BACK = 1;
    private static final int TABLE = 2;
    private static final int CHOICE = 3;
    private static final String STAR = "0-1 0-2 0-3";
    /** Its tree is 1 with 2 and 0 below it, and 3 below 2. */
    private static final String CHAIN = "0-1 1-2 2-3";

    public static void main(String[] args) {
        emptyRow();
        doubledTwenty();
        tokenSentAgain();
        tokenToTheNextChild();
        backAndTable();
        backSentAgain();
        tableUpwards();
        choicesOfTheRoot();
        choicesOfAnother();
        tableOfAChange();
        againInPart();
        lostForGood();
        Check.end();
    }

    private static void emptyRow() {
        BargainTree x = Check.settled(2, "0-1");
        Check.same("8: no letter", NONE, x.told(0, 0));
        for (int action = 0; action <= 2; action++) {
            int which = action;
            Check.thrown("7: no letter", Check.INDEX, () -> x.letter(0, which));
        }
        Check.same("9: the first one", 1, x.again(0));
        Check.same("7: none is left", 0, x.letter(0, 1));
        Check.thrown("7: no letter", Check.INDEX, () -> x.letter(0, 1));
    }

    /** "IllegalStateException when it would be doubled and there are 20." */
    private static void doubledTwenty() {
        BargainTree x = Check.started(4, "0-1 2-3");
        Check.fill(x, 1, 2, 19);
        Check.same("7: the twentieth", 20, x.letter(0, 2));
        Check.letter("7: is the last one", x, 19, TOKEN, 0, 1, 1, 0);
        for (int k = 0; k < 20; k++) {
            int which = k;
            Check.thrown("7: a twenty-first like letter " + k, Check.STATE, () -> x.letter(which, 2));
        }
        Check.same("8: there is no twenty-first", NONE, x.told(20, 0));
        Check.letter("7: the last one stays", x, 19, TOKEN, 0, 1, 1, 0);
        Check.same("7: one may be lost", 19, x.letter(19, 1));
        Check.same("7: then another one doubled", 20, x.letter(18, 2));
        Check.thrown("7: but no more", Check.STATE, () -> x.letter(18, 2));
    }

    private static void tokenSentAgain() {
        BargainTree x = Check.started(4, "0-1 2-3");
        Check.fill(x, 0, 2, 19);
        Check.same("9: the twentieth", 20, x.again(2));
        Check.letter("9: is the last one", x, 19, TOKEN, 2, 3, 4, 0);
        Check.same("9: a twenty-first is lost", 20, x.again(0));
        Check.letter("9: the last one stays", x, 19, TOKEN, 2, 3, 4, 0);
        Check.same("8: there is no twenty-first", NONE, x.told(20, 0));
        x.letter(19, 1);
        x.letter(1, 1);
        Check.fill(x, 0, 18, 20);
        Check.same("9: it is lost", 20, x.again(2));
        for (int k = 0; k < 20; k++) {
            Check.same("8: all are from 0", 0, x.told(k, 1));
        }
        Check.same("7: one goes", 19, x.letter(0, 1));
        Check.same("9: it is not lost", 20, x.again(2));
        Check.letter("9: it is the last one", x, 19, TOKEN, 2, 3, 4, 0);
    }

    private static void tokenToTheNextChild() {
        for (int n = 1; n <= 20; n++) {
            BargainTree x = Check.started(4, STAR);
            x.letter(0, 0);
            Check.same("7: the table is lost", 1, x.letter(1, 1));
            Check.fill(x, 0, 1, n);
            Check.same("7: back is out of the row first", n, x.letter(0, 0));
            Check.letter("7: so there is room for the token", x, n - 1, TOKEN, 0, 2, 3, 0);
            if (n == 20) {
                Check.same("7: another back is nothing", 19, x.letter(0, 0));
            }
        }
    }

    private static void backAndTable() {
        BargainTree x = Check.started(2, "0-1");
        Check.fill(x, 0, 1, 19);
        Check.same("7: room for both", 20, x.letter(0, 0));
        Check.letter("7: back", x, 18, BACK, 1, 0, 3, 0);
        Check.letter("7: table", x, 19, TABLE, 1, 0, 1, 2);
        BargainTree y = Check.started(2, "0-1");
        Check.fill(y, 0, 1, 20);
        Check.same("7: room for back alone", 20, y.letter(0, 0));
        Check.same("7: a token", TOKEN, y.told(18, 0));
        Check.letter("7: back", y, 19, BACK, 1, 0, 3, 0);
        Check.same("16: the table was made", 2, y.entries(1));
        Check.same("17: and is counted", 1, y.tables());
    }

    private static void backSentAgain() {
        BargainTree x = Check.started(2, "0-1");
        Check.fill(x, 0, 1, 20);
        x.letter(0, 0);
        Check.same("7: a token to one that is through", 20, x.letter(0, 0));
        Check.same("7: a token", TOKEN, x.told(17, 0));
        Check.letter("7: back", x, 18, BACK, 1, 0, 3, 0);
        Check.letter("7: back again", x, 19, BACK, 1, 0, 3, 0);
        for (int n = 0; n < 18; n++) {
            x.letter(0, 0);
        }
        for (int k = 0; k < 20; k++) {
            Check.same("8: all are back", BACK, x.told(k, 0));
        }
        Check.same("7: back to a root that waits", 19, x.letter(19, 0));
        Check.same("7: back to a root that is through", 18, x.letter(0, 0));
    }

    private static void tableUpwards() {
        for (int n = 19; n <= 20; n++) {
            BargainTree x = Check.started(4, CHAIN);
            x.letter(0, 0);
            x.letter(0, 0);
            x.letter(0, 0);
            x.letter(1, 1);
            Check.letter("the table of 3 alone", x, 0, TABLE, 3, 2, 1, 2);
            Check.fill(x, 0, 1, n);
            Check.same("7: it is out of the row first", n, x.letter(0, 0));
            Check.letter("7: so there is room for that of 2", x, n - 1, TABLE, 2, 1, 1, 2);
            Check.same("7: its double is nothing", n - 1, x.letter(0, 0));
        }
    }

    private static void choicesOfTheRoot() {
        for (int n = 1; n <= 20; n++) {
            BargainTree x = Check.started(4, STAR);
            for (int k : new int[] {0, 0, 1, 1, 2, 2, 2, 1}) {
                x.letter(k, 0);
            }
            Check.same("15: the root is through", 0, x.separator(0));
            Check.letter("and lacks the table of 1 alone", x, 0, TABLE, 1, 0, 1, 2);
            Check.fill(x, 0, 1, n);
            Check.same("7: three, or as many as there is room for", Math.min(20, n + 2), x.letter(0, 0));
            Check.same("12: the root is settled", 0, x.value(0));
            for (int i = 0; i < 3; i++) {
                boolean lost = n - 1 + i >= 20;
                Check.same("7: choice " + i + " of " + n, lost ? NONE : CHOICE, x.told(n - 1 + i, 0));
                Check.same("7: goes to", lost ? NONE : i + 1, x.told(n - 1 + i, 2));
            }
        }
    }

    /** The tree is 0 with 1, 2, 3 and 4 below it, and 5 and 6 below 1. */
    private static void choicesOfAnother() {
        for (int n = 19; n <= 20; n++) {
            BargainTree x = Check.settled(7, "0-1 0-2 0-3 0-4 1-5 1-6");
            x.change(1, 5, 0, 0, 1);
            x.letter(0, 0);
            Check.same("7: four choices", 4, x.letter(0, 0));
            x.letter(3, 1);
            x.letter(2, 1);
            x.letter(1, 1);
            Check.letter("the choice for 1 alone", x, 0, CHOICE, 0, 1, 2, 1);
            Check.fill(x, 0, 1, n);
            Check.same("7: the row is full", 20, x.letter(0, 0));
            Check.letter("7: to 5", x, n - 1, CHOICE, 1, 5, 2, 2);
            Check.same("7: to 6, or lost", n == 19 ? 6 : NONE, x.told(n, 2));
            Check.same("12: 1 is settled", 0, x.value(1));
            Check.deliverAll(x);
            Check.same("12: 5 is settled", 1, x.value(5));
            Check.same("12: 6 is, if it was told", n == 19 ? 0 : NONE, x.value(6));
        }
    }

    private static void tableOfAChange() {
        BargainTree x = Check.settled(2, "0-1");
        x.again(0);
        Check.fill(x, 0, 1, 19);
        Check.same("10: the twentieth", 20, x.change(0, 1, 0, 0, 4));
        Check.letter("10: is the last one", x, 19, TABLE, 1, 0, 2, 2);
        BargainTree y = Check.settled(2, "0-1");
        y.again(0);
        Check.fill(y, 0, 1, 20);
        Check.same("10: a twenty-first is lost", 20, y.change(0, 1, 0, 0, 4));
        Check.letter("10: the last one stays", y, 19, CHOICE, 0, 1, 1, 1);
        Check.same("8: there is no twenty-first", NONE, y.told(20, 0));
        Check.same("17: but it was made", 1, y.tables());
        Check.same("11: something is to be done", 0, y.done());
        Check.deliverAll(y);
        Check.same("11: still", 0, y.done());
        Check.same("9: back and table", 2, y.again(1));
        Check.letter("9: of the second run", y, 1, TABLE, 1, 0, 2, 2);
        Check.deliverAll(y);
        Check.same("11: now all are settled", 1, y.done());
        Check.same("12: value(1)", 1, y.value(1));
    }

    private static void againInPart() {
        int[] kinds = {BACK, TABLE, CHOICE};
        for (int n = 17; n <= 20; n++) {
            BargainTree x = Check.settled(4, CHAIN);
            Check.same("9: choices for 2 and 0", 2, x.again(1));
            Check.fill(x, 0, 2, n);
            Check.same("9: three, or as many as there is room for", 20, x.again(2));
            for (int i = 0; i < 3; i++) {
                boolean lost = n + i >= 20;
                Check.same("9: letter " + i + " of " + n, lost ? NONE : kinds[i], x.told(n + i, 0));
                Check.same("9: is from", lost ? NONE : 2, x.told(n + i, 1));
            }
        }
    }

    /** What was lost does not come when there is room again. */
    private static void lostForGood() {
        BargainTree x = Check.settled(4, STAR);
        for (int n = 1; n <= 6; n++) {
            Check.same("9: three choices", 3 * n, x.again(0));
        }
        Check.same("9: two are sent, one is lost", 20, x.again(0));
        Check.letter("to 1", x, 18, CHOICE, 0, 1, 1, 1);
        Check.letter("to 2", x, 19, CHOICE, 0, 2, 1, 1);
        for (int n = 19; n >= 0; n--) {
            Check.same("7: one goes, none comes", n, x.letter(n, 1));
        }
    }
}
