/** Promises 1 to 6: a problem is written down, and started. */
public final class ProblemTest {
    private static final int NONE = BargainTree.NONE;
    private static final int NEVER = BargainTree.NEVER;
    private static final int LEAST = Integer.MIN_VALUE;
    private static final int GREATEST = Integer.MAX_VALUE;

    public static void main(String[] args) {
        newObject();
        agents();
        ownCosts();
        pairs();
        pairCosts();
        start();
        costsCount();
        Check.end();
    }

    private static void newObject() {
        BargainTree x = new BargainTree();
        Check.same("1: done()", 0, x.done());
        Check.same("1: total()", NONE, x.total());
        Check.same("1: tables()", 0, x.tables());
        for (int a : new int[] {LEAST, -1, 0, 1, 7, 8, GREATEST}) {
            Check.same("1: value", NONE, x.value(a));
            Check.same("1: parent", NONE, x.parent(a));
            Check.same("1: separator", NONE, x.separator(a));
            Check.same("1: entries", NONE, x.entries(a));
            Check.same("1: told", NONE, x.told(a, 0));
            Check.thrown("1: own", Check.ARGUMENT, () -> x.own(a, 0, 0));
            Check.thrown("1: pair", Check.ARGUMENT, () -> x.pair(a, 0));
            Check.thrown("1: again", Check.ARGUMENT, () -> x.again(a));
            Check.thrown("1: letter", Check.INDEX, () -> x.letter(a, 0));
        }
        BargainTree other = new BargainTree();
        other.agent(2);
        Check.same("1: objects share nothing", 0, x.agent(2));
    }

    private static void agents() {
        BargainTree x = new BargainTree();
        for (int values : new int[] {LEAST, -1, 0, 1, 5, GREATEST}) {
            Check.thrown("2: agent(" + values + ")", Check.ARGUMENT, () -> x.agent(values));
        }
        for (int i = 0; i < 8; i++) {
            Check.same("2: the number", i, x.agent(2 + i % 3));
        }
        Check.thrown("2: a ninth", Check.STATE, () -> x.agent(2));
        Check.thrown("2: a ninth with wrong values", Check.ARGUMENT, () -> x.agent(1));
        for (int i = 0; i < 8; i++) {
            int a = i;
            x.own(a, 1 + a % 3, 0);
            Check.thrown("2: one value more", Check.ARGUMENT, () -> x.own(a, 2 + a % 3, 0));
        }
        BargainTree y = Check.problem(2);
        y.start();
        Check.thrown("2: started", Check.STATE, () -> y.agent(2));
        Check.thrown("2: started, wrong values", Check.ARGUMENT, () -> y.agent(5));
    }

    private static void ownCosts() {
        BargainTree x = Check.problem(3, 2);
        x.own(0, 0, 0);
        x.own(0, 2, 999);
        x.own(1, 1, NEVER);
        for (int a : new int[] {LEAST, -1, 2, 8, GREATEST}) {
            Check.thrown("3: no such agent", Check.ARGUMENT, () -> x.own(a, 0, 0));
        }
        for (int value : new int[] {LEAST, -1, 2, 4, GREATEST}) {
            Check.thrown("3: no such value", Check.ARGUMENT, () -> x.own(1, value, 0));
        }
        for (int cost : new int[] {LEAST, -3, -1, 1000, GREATEST}) {
            Check.thrown("3: no such cost", Check.ARGUMENT, () -> x.own(0, 0, cost));
        }
        x.start();
        Check.thrown("3: started", Check.STATE, () -> x.own(0, 0, 1));
        Check.thrown("3: started, no such value", Check.ARGUMENT, () -> x.own(0, 3, 1));
        Check.thrown("3: started, no such cost", Check.ARGUMENT, () -> x.own(0, 0, -1));
        Check.same("3: what failed changed nothing", 0, x.total());
    }

    private static void pairs() {
        BargainTree x = Check.problem(2, 2, 2, 2, 2, 2, 2);
        for (int b : new int[] {LEAST, -1, 0, 7, 8, GREATEST}) {
            Check.thrown("4: pair(0, " + b + ")", Check.ARGUMENT, () -> x.pair(0, b));
            Check.thrown("4: pair(" + b + ", 0)", Check.ARGUMENT, () -> x.pair(b, 0));
        }
        Check.same("4: the first", 1, x.pair(2, 1));
        Check.thrown("4: once more", Check.STATE, () -> x.pair(2, 1));
        Check.thrown("4: turned round", Check.STATE, () -> x.pair(1, 2));
        int[][] more = {{0, 1}, {2, 0}, {3, 0}, {0, 4}, {5, 0}, {6, 0}, {1, 3}, {1, 4}, {5, 1}, {1, 6}, {3, 2}};
        for (int i = 0; i < more.length; i++) {
            Check.same("4: how many", 2 + i, x.pair(more[i][0], more[i][1]));
        }
        Check.thrown("4: a thirteenth", Check.STATE, () -> x.pair(5, 6));
        Check.thrown("4: a thirteenth of one agent", Check.ARGUMENT, () -> x.pair(5, 5));
        BargainTree y = Check.problem(2, 2);
        y.start();
        Check.thrown("4: started", Check.STATE, () -> y.pair(0, 1));
        Check.thrown("4: started, no such agent", Check.ARGUMENT, () -> y.pair(0, 2));
    }

    private static void pairCosts() {
        BargainTree x = Check.problem(2, 4, 3);
        x.pair(0, 1);
        x.cost(0, 1, 1, 3, 999);
        x.cost(1, 0, 3, 1, NEVER);
        x.cost(0, 1, 0, 0, 0);
        Check.thrown("5: no such pair", Check.ARGUMENT, () -> x.cost(0, 2, 0, 0, 1));
        Check.thrown("5: one agent", Check.ARGUMENT, () -> x.cost(1, 1, 0, 0, 1));
        for (int a : new int[] {LEAST, -1, 3, 8, GREATEST}) {
            Check.thrown("5: no such agent", Check.ARGUMENT, () -> x.cost(a, 1, 0, 0, 1));
            Check.thrown("5: no such other agent", Check.ARGUMENT, () -> x.cost(0, a, 0, 0, 1));
        }
        for (int value : new int[] {LEAST, -1, 2, 4, GREATEST}) {
            Check.thrown("5: no such value", Check.ARGUMENT, () -> x.cost(0, 1, value, 0, 1));
            Check.thrown("5: no such value of b", Check.ARGUMENT, () -> x.cost(1, 0, 0, value, 1));
        }
        Check.thrown("5: no such value of agent 1", Check.ARGUMENT, () -> x.cost(0, 1, 0, 4, 1));
        for (int cost : new int[] {LEAST, -3, -1, 1000, GREATEST}) {
            Check.thrown("5: no such cost", Check.ARGUMENT, () -> x.cost(0, 1, 0, 0, cost));
        }
        x.start();
        Check.thrown("5: started", Check.STATE, () -> x.cost(0, 1, 0, 0, 1));
        Check.thrown("5: started, no such pair", Check.ARGUMENT, () -> x.cost(0, 2, 0, 0, 1));
        Check.thrown("5: started, no such cost", Check.ARGUMENT, () -> x.cost(0, 1, 0, 0, 1000));
    }

    private static void start() {
        BargainTree x = new BargainTree();
        Check.thrown("6: no agent", Check.STATE, x::start);
        for (int i = 0; i < 7; i++) {
            x.agent(2);
        }
        Check.join(x, "0-5 5-3 1-2");
        Check.same("6: parts", 4, x.start());
        Check.thrown("6: twice", Check.STATE, x::start);
        Check.same("6: letters", 2, Check.lettersOf(x));
        Check.letter("6: the least root's", x, 0, 0, 1, 2, 1 << 1, 0);
        Check.letter("6: the next root's", x, 1, 0, 5, 0, 1 << 5, 0);
        Check.same("6: a root alone is through", 0, x.separator(4));
        Check.same("6: and settled", 0, x.value(6));
        Check.same("6: tables", 2, x.tables());
        Check.same("6: done()", 0, x.done());
        Check.deliverAll(x);
        Check.same("6: done() at the end", 1, x.done());
    }

    /** The costs that are written down, and no others, are counted (3, 5, 13). */
    private static void costsCount() {
        BargainTree x = Check.problem(2, 3);
        x.own(0, 0, 5);
        x.own(0, 0, 7);
        x.own(0, 1, NEVER);
        x.own(1, 0, 3);
        x.own(1, 1, 1);
        x.own(1, 2, 0);
        x.pair(1, 0);
        x.cost(0, 1, 0, 0, 10);
        x.cost(1, 0, 1, 0, 20);
        x.cost(0, 1, 0, 2, 500);
        x.cost(0, 1, 0, 2, NEVER);
        x.start();
        Check.deliverAll(x);
        Check.same("3, 5: total()", 7 + 3 + 10, x.total());
        Check.same("3, 5: value(0)", 0, x.value(0));
        Check.same("3, 5: value(1)", 0, x.value(1));
    }
}
