/** Promises 7, 8 and 9: letters are handed over, told of, and sent again. */
public final class LettersTest {
    private static final int NONE = BargainTree.NONE;
    private static final int NEVER = BargainTree.NEVER;
    private static final int TOKEN = 0;
    private static final int BACK = 1;
    private static final int TABLE = 2;
    private static final int CHOICE = 3;

    public static void main(String[] args) {
        actions();
        noSuchAction();
        noSuchLetter();
        actionBeforeLetter();
        toldOfTokenAndBack();
        toldOfTable();
        toldOfChoice();
        toldOfNoLetter();
        againTokenIfItWaits();
        againBackIfThrough();
        againTableIfMade();
        againChoices();
        againRoot();
        againNoSuchAgent();
        againOpen();
        Check.end();
    }

    /** Four tokens: from 0 to 7, from 1 to 6, from 2 to 5, from 3 to 4. */
    private static BargainTree four() {
        return Check.started(8, "7-0 6-1 5-2 4-3");
    }

    private static void senders(String what, BargainTree x, int... due) {
        for (int k = 0; k < due.length; k++) {
            Check.same(what + ", told(" + k + ", 1)", due[k], x.told(k, 1));
        }
        Check.same(what + ", no more", NONE, x.told(due.length, 1));
    }

    /** "Letter k under way, from 0, is delivered (action 0: it is out of the row first), lost (1), or doubled (2 ..)" */
    private static void actions() {
        BargainTree x = four();
        senders("6: at first", x, 0, 1, 2, 3);
        Check.same("7: one in the middle is doubled", 5, x.letter(1, 2));
        senders("7: one more like it is the last one", x, 0, 1, 2, 3, 1);
        Check.letter("7: just like it", x, 4, TOKEN, 1, 6, 2, 0);
        Check.same("7: one in the middle is lost", 4, x.letter(2, 1));
        senders("7: those behind it move up", x, 0, 1, 3, 1);
        Check.same("14: nothing came to 5", NONE, x.parent(5));
        Check.same("7: the first one is delivered", 5, x.letter(0, 0));
        senders("7: it is out, what it brings is behind all", x, 1, 3, 1, 7, 7);
        Check.same("14: it came to 7", 0, x.parent(7));
        Check.same("7: the last one is lost", 4, x.letter(4, 1));
        senders("7: the others stay", x, 1, 3, 1, 7);
        Check.same("7: the last one is doubled", 5, x.letter(3, 2));
        Check.same("7: the last one is delivered", 4, x.letter(4, 0));
        Check.same("15: it came to 0", 0, x.separator(0));
        Check.same("7: the first one is lost", 3, x.letter(0, 1));
        senders("7: those behind it move up", x, 3, 1, 7);
        Check.same("14: 6 has nothing yet", NONE, x.parent(6));
        Check.same("7: its double is delivered", 4, x.letter(1, 0));
        Check.same("14: it came to 6", 1, x.parent(6));
    }

    /** "IllegalArgumentException when action is not 0 .. 2" */
    private static void noSuchAction() {
        BargainTree x = Check.started(2, "0-1");
        String before = Check.look(x, 2);
        for (int action : Check.outside(0, 2)) {
            Check.thrown("7: letter(0, " + action + ")", Check.ARGUMENT, () -> x.letter(0, action));
        }
        Check.same("7: nothing happened", before, Check.look(x, 2));
        Check.same("7: action 2", 2, x.letter(0, 2));
        Check.same("7: action 1", 1, x.letter(0, 1));
        Check.same("7: action 0", 2, x.letter(0, 0));
    }

    /** "IndexOutOfBoundsException when there is no such letter" */
    private static void noSuchLetter() {
        BargainTree open = Check.problem(2);
        Check.thrown("7: open", Check.INDEX, () -> open.letter(0, 0));
        for (int letters : new int[] {0, 1, 4, 19, 20}) {
            BargainTree x = four();
            for (int k = 4; k > letters; k--) {
                x.letter(0, 1);
            }
            Check.fill(x, 0, 4, letters);
            for (int k : Check.outside(0, letters - 1)) {
                for (int action = 0; action <= 2; action++) {
                    int which = action;
                    Check.thrown("7: letter(" + k + ", " + which + ")", Check.INDEX, () -> x.letter(k, which));
                }
            }
            Check.same("7: as many as before", letters, Check.lettersOf(x));
            if (letters > 0) {
                Check.same("7: the last one there is", letters - 1, x.letter(letters - 1, 1));
            }
        }
    }

    /** Where several are wrong, the document names the action first, then the letter, then the full row. */
    private static void actionBeforeLetter() {
        BargainTree x = Check.started(2, "0-1");
        for (int k : new int[] {Check.LEAST, -1, 1, 20, Check.GREATEST}) {
            for (int action : new int[] {Check.LEAST, -1, 3, Check.GREATEST}) {
                Check.thrown("7: letter(" + k + ", " + action + ")", Check.ARGUMENT, () -> x.letter(k, action));
            }
        }
        Check.fill(x, 0, 1, 20);
        Check.thrown("7: letter(20, 2)", Check.INDEX, () -> x.letter(20, 2));
        Check.thrown("7: letter(-1, 2)", Check.INDEX, () -> x.letter(-1, 2));
        Check.thrown("7: letter(0, 3)", Check.ARGUMENT, () -> x.letter(0, 3));
        Check.same("7: as many as before", 20, Check.lettersOf(x));
    }

    /** Of letter k there is none such but 0 .. 4, and 10 .. for so many. */
    private static void noneBut(String what, BargainTree x, int k, int last) {
        for (int i : Check.outside(0, last)) {
            Check.same(what + ", told(" + k + ", " + i + ")", NONE, x.told(k, i));
        }
        for (int i = 5; i < 10; i++) {
            Check.same(what + ", told(" + k + ", " + i + ")", NONE, x.told(k, i));
        }
        for (int i = 0; i < 20; i++) {
            // 10 + i - 10 would be an index again if it went round.
            Check.same(what + ", told at " + i + " from the least", NONE, x.told(k, Check.LEAST + i));
            Check.same(what + ", told at " + i + " from the greatest", NONE, x.told(k, Check.GREATEST - i));
        }
    }

    /** "3 its mask or run; 4 how many entries or values it has (0 of TOKEN and BACK)" */
    private static void toldOfTokenAndBack() {
        BargainTree x = Check.started(8, "0-7");
        Check.letter("8: a token", x, 0, TOKEN, 0, 7, 1, 0);
        noneBut("8: a token", x, 0, 4);
        for (int i = 0; i < 8; i++) {
            Check.same("8: a token has no value of agent " + i, NONE, x.told(0, 10 + i));
        }
        BargainTree y = Check.started(8, "0-7");
        y.letter(0, 0);
        Check.letter("8: a back", y, 0, BACK, 7, 0, 0b10000001, 0);
        noneBut("8: a back", y, 0, 4);
        for (int i = 0; i < 8; i++) {
            Check.same("8: a back has no value of agent " + i, NONE, y.told(0, 10 + i));
        }
    }

    /** "10 + i entry i (a cost or NEVER)" */
    private static void toldOfTable() {
        BargainTree x = Check.problem(4, 3);
        x.pair(0, 1);
        int[] entries = {0, 999, NEVER, 7};
        for (int v = 0; v < 4; v++) {
            for (int w = 0; w < 3; w++) {
                x.cost(0, 1, v, w, entries[v]);
            }
        }
        x.start();
        x.letter(0, 0);
        Check.letter("8: a table", x, 1, TABLE, 1, 0, 1, 4);
        Check.content("8: its entries", x, 1, entries);
        noneBut("8: a table", x, 1, 13);
        for (int i = 4; i < 20; i++) {
            Check.same("8: no entry " + i, NONE, x.told(1, 10 + i));
        }
    }

    /** "or of a CHOICE the value of agent i (NONE for none that it has)" */
    private static void toldOfChoice() {
        BargainTree x = Check.problem(2, 2, 2, 2, 2, 2, 2, 2);
        Check.join(x, "0-1 1-2 2-3 3-4 4-5 5-6 6-7 7-0");
        for (int a = 0; a < 8; a += 2) {
            x.own(a, 0, 1);
        }
        x.start();
        Check.deliverAll(x);
        x.again(0);
        Check.letter("8: the first one's", x, 0, CHOICE, 0, 1, 1, 1);
        Check.content("8: its own alone", x, 0, 1, NONE, NONE, NONE, NONE, NONE, NONE, NONE);
        noneBut("8: a choice", x, 0, 17);
        x.letter(0, 1);
        x.again(6);
        Check.letter("8: the last one's", x, 2, CHOICE, 6, 7, 1, 7);
        Check.content("8: of seven", x, 2, 1, 0, 1, 0, 1, 0, 1, NONE);
        noneBut("8: a choice", x, 2, 17);
    }

    /** "NONE when there is none such." */
    private static void toldOfNoLetter() {
        for (int letters : new int[] {0, 1, 4, 20}) {
            BargainTree x = four();
            for (int k = 4; k > letters; k--) {
                x.letter(0, 1);
            }
            Check.fill(x, 0, 4, letters);
            for (int k : Check.outside(0, letters - 1)) {
                for (int what : new int[] {Check.LEAST, -1, 0, 1, 2, 3, 4, 5, 10, 17, Check.GREATEST}) {
                    Check.same("8: told(" + k + ", " + what + ")", NONE, x.told(k, what));
                }
            }
            if (letters > 0) {
                Check.same("8: the last one there is", TOKEN, x.told(letters - 1, 0));
            }
        }
        BargainTree open = Check.problem(2);
        Check.same("8: open", NONE, open.told(0, 0));
    }

    /** "TOKEN, if it waits" */
    private static void againTokenIfItWaits() {
        BargainTree x = Check.started(4, "0-1 1-2 1-3");
        Check.same("9: one that had no token sends nothing", 1, x.again(2));
        Check.same("9: one that waits", 2, x.again(1));
        Check.letter("9: as it was", x, 1, TOKEN, 1, 0, 0b0010, 0);
        x.letter(1, 1);
        x.letter(0, 0);
        x.letter(0, 0);
        Check.same("9: it waits for the next one", 3, x.again(1));
        Check.letter("9: as it was", x, 2, TOKEN, 1, 2, 0b0011, 0);
        Check.same("9: still", 4, x.again(1));
        Check.letter("9: as it was", x, 3, TOKEN, 1, 2, 0b0011, 0);
        Check.deliverAll(x);
        x.again(1);
        Check.same("9: it waits no more", CHOICE, x.told(0, 0));
    }

    /** "BACK, if it is through and no root" */
    private static void againBackIfThrough() {
        BargainTree x = Check.started(4, "0-1 1-2 2-3");
        x.letter(0, 0);
        Check.same("9: one that waits sends no back", 2, x.again(2));
        Check.letter("9: its token alone", x, 1, TOKEN, 2, 3, 0b0110, 0);
        x.letter(1, 1);
        x.letter(0, 0);
        x.letter(0, 0);
        Check.same("15: 2 is through", 0b0010, x.separator(2));
        Check.same("9: without a table it sends back alone", 3, x.again(2));
        Check.letter("9: as it was", x, 2, BACK, 2, 1, 0b1110, 0);
        x.letter(2, 1);
        Check.deliverAll(x);
        x.again(2);
        Check.letter("9: with the mask that it had", x, 0, BACK, 2, 1, 0b1110, 0);
        Check.same("9: and more behind it", 3, Check.lettersOf(x));
    }

    /** "its latest TABLE, if it made one and is no root" */
    private static void againTableIfMade() {
        BargainTree x = Check.started(2, "0-1");
        x.letter(0, 0);
        Check.same("9: back and table", 4, x.again(1));
        Check.letter("9: back", x, 2, BACK, 1, 0, 3, 0);
        Check.letter("9: table", x, 3, TABLE, 1, 0, 1, 2);
        Check.deliverAll(x);
        for (int v = 0; v < 2; v++) {
            x.change(0, 1, 0, v, 5 + v);
            Check.deliverAll(x);
        }
        x.again(1);
        Check.letter("9: the latest", x, 1, TABLE, 1, 0, 3, 2);
        Check.content("9: its entries", x, 1, 5, 0);
        Check.same("17: none was made", 2, x.tables());
    }

    /** "CHOICE to each child, if it is settled, by the run it is settled in." */
    private static void againChoices() {
        BargainTree x = Check.problem(2, 2, 2, 2);
        Check.join(x, "0-1 1-2 1-3");
        x.own(1, 0, 1);
        x.start();
        Check.deliverAll(x);
        Check.same("9: the root sends choices alone", 3, x.again(1));
        for (int k = 0; k < 3; k++) {
            Check.letter("9: in the order of the children", x, k, CHOICE, 1, k == 0 ? 0 : k + 1, 1, 1);
            Check.content("9: the values", x, k, NONE, 1, NONE, NONE, NONE, NONE, NONE, NONE);
        }
        Check.same("9: a leaf has no child to tell", 5, x.again(3));
        Check.letter("9: back", x, 3, BACK, 3, 1, 15, 0);
        Check.letter("9: table", x, 4, TABLE, 3, 1, 1, 2);
        Check.deliverAll(x);
        Check.same("17: nothing was made anew", 4, x.tables());
        x.change(1, 3, 0, 0, 1);
        x.letter(0, 1);
        Check.same("9: settled in the run before", 3, x.again(1));
        Check.letter("9: by that run", x, 0, CHOICE, 1, 0, 1, 1);
    }

    private static void againRoot() {
        BargainTree alone = Check.problem(2);
        alone.start();
        Check.same("9: a root alone has nobody to send to", 0, alone.again(0));
        BargainTree x = Check.problem(2, 2);
        x.pair(0, 1);
        Check.costAll(x, 0, 1, NEVER);
        x.start();
        x.letter(0, 0);
        x.letter(0, 0);
        Check.same("15: the root is through", 0, x.separator(0));
        Check.same("9: without a table it sends nothing", 1, x.again(0));
        x.letter(0, 0);
        Check.same("16: it has a table", 1, x.entries(0));
        Check.same("9: nor does it when it has found none", 0, x.again(0));
    }

    /** "IllegalArgumentException when there is no such agent" */
    private static void againNoSuchAgent() {
        for (int agents = 1; agents <= 8; agents++) {
            BargainTree x = new BargainTree();
            for (int a = 0; a < agents; a++) {
                x.agent(2);
            }
            x.start();
            for (int a : Check.outside(0, agents - 1)) {
                Check.thrown("9: again(" + a + ")", Check.ARGUMENT, () -> x.again(a));
            }
            Check.same("9: the first one there is", 0, x.again(0));
            Check.same("9: the last one there is", 0, x.again(agents - 1));
        }
        BargainTree open = Check.problem(2, 2);
        for (int a : Check.outside(0, 1)) {
            Check.thrown("9: open, no such agent", Check.ARGUMENT, () -> open.again(a));
        }
    }

    /** "IllegalStateException when the problem is open." */
    private static void againOpen() {
        BargainTree x = Check.problem(2, 2);
        x.pair(0, 1);
        Check.thrown("9: open", Check.STATE, () -> x.again(0));
        Check.thrown("9: open", Check.STATE, () -> x.again(1));
        Check.same("9: nothing was sent", NONE, x.told(0, 0));
        x.start();
        Check.same("9: not open", 2, x.again(0));
        Check.same("9: not open", 2, x.again(1));
    }
}
