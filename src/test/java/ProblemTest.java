/** Promises 1 to 6: a problem is written down, and started. A comment in quotes is a sentence of the document. */
public final class ProblemTest {
    private static final int NONE = BargainTree.NONE;
    private static final int NEVER = BargainTree.NEVER;
    private static final String TWELVE = "0-1 0-2 0-3 0-4 0-5 0-6 1-2 1-3 1-4 1-5 1-6 2-3";

    public static void main(String[] args) {
        noAgentsNoPairs();
        objectsShareNothing();
        agentNumbers();
        agentValues();
        agentNotOpen();
        agentWhenThereAreEight();
        ownCostAtFirst();
        ownCost();
        ownNoSuchAgent();
        ownNoSuchValue();
        ownNoSuchCost();
        ownNotOpen();
        pairCount();
        pairNoSuchAgents();
        pairNotOpen();
        pairAlready();
        pairWhenThereAreTwelve();
        costAtFirst();
        cost();
        costNoSuchPair();
        costNoSuchValue();
        costNoSuchCost();
        costNotOpen();
        startNoAgent();
        startNotOpen();
        startParts();
        startRootsInOrder();
        argumentsBeforeStates();
        Check.end();
    }

    /** "No agents, no pairs." */
    private static void noAgentsNoPairs() {
        BargainTree x = new BargainTree();
        Check.same("1: done()", 0, x.done());
        Check.same("1: total()", NONE, x.total());
        Check.same("1: tables()", 0, x.tables());
        for (int a : new int[] {Check.LEAST, -1, 0, 1, 7, 8, Check.GREATEST}) {
            Check.same("1: value(" + a + ")", NONE, x.value(a));
            Check.same("1: parent(" + a + ")", NONE, x.parent(a));
            Check.same("1: separator(" + a + ")", NONE, x.separator(a));
            Check.same("1: entries(" + a + ")", NONE, x.entries(a));
            Check.same("1: told(" + a + ", 0)", NONE, x.told(a, 0));
            Check.thrown("1: own(" + a + ", 0, 0)", Check.ARGUMENT, () -> x.own(a, 0, 0));
            Check.thrown("1: pair(" + a + ", 0)", Check.ARGUMENT, () -> x.pair(a, 0));
            Check.thrown("1: cost(" + a + ", 0, 0, 0, 0)", Check.ARGUMENT, () -> x.cost(a, 0, 0, 0, 0));
            Check.thrown("1: change(" + a + ", 0, 0, 0, 0)", Check.ARGUMENT, () -> x.change(a, 0, 0, 0, 0));
            Check.thrown("1: again(" + a + ")", Check.ARGUMENT, () -> x.again(a));
            Check.thrown("1: letter(" + a + ", 0)", Check.INDEX, () -> x.letter(a, 0));
        }
        Check.same("1: the first agent", 0, x.agent(2));
        x.agent(2);
        Check.same("1: the first pair", 1, x.pair(0, 1));
    }

    private static void objectsShareNothing() {
        BargainTree x = new BargainTree();
        BargainTree other = Check.started(2, "0-1");
        Check.same("1: another one's letters", NONE, x.told(0, 0));
        Check.same("1: another one's agents", 0, x.agent(2));
        Check.thrown("1: another one's pairs", Check.ARGUMENT, () -> x.cost(0, 1, 0, 0, 1));
        Check.same("1: another one's start", 1, x.start());
        Check.same("1: the other one", 1, Check.lettersOf(other));
    }

    /** "A new agent with so many values: its number." "AGENTS are 0 .. 7" */
    private static void agentNumbers() {
        BargainTree x = new BargainTree();
        for (int i = 0; i < 8; i++) {
            Check.same("2: the number", i, x.agent(2 + i % 3));
            Check.same("2: alone it has no parent", NONE, x.parent(i));
        }
        for (int i = 0; i < 8; i++) {
            int a = i;
            int values = 2 + a % 3;
            x.own(a, values - 1, 0);
            Check.thrown("2: so many values, and no more", Check.ARGUMENT, () -> x.own(a, values, 0));
        }
    }

    /** "IllegalArgumentException when it is not 2 .. 4"; "each with 2 .. 4 VALUES 0, 1, .." */
    private static void agentValues() {
        for (int values = 2; values <= 4; values++) {
            BargainTree x = Check.problem(values);
            for (int v = 0; v < values - 1; v++) {
                x.own(0, v, NEVER);
            }
            x.own(0, values - 1, 5);
            x.start();
            Check.same("2: the greatest of " + values + " values", values - 1, x.value(0));
        }
        BargainTree x = new BargainTree();
        for (int values : Check.outside(2, 4)) {
            Check.thrown("2: agent(" + values + ")", Check.ARGUMENT, () -> x.agent(values));
        }
        Check.same("2: no agent was made", 0, x.agent(2));
        for (int values : Check.outside(2, 4)) {
            Check.thrown("2: agent(" + values + ")", Check.ARGUMENT, () -> x.agent(values));
        }
        Check.same("2: nor another one", 1, x.agent(4));
    }

    /** "IllegalStateException when the problem is not open" */
    private static void agentNotOpen() {
        BargainTree x = Check.problem(2);
        Check.same("2: open", 1, x.agent(2));
        x.start();
        for (int values = 2; values <= 4; values++) {
            int so = values;
            Check.thrown("2: not open", Check.STATE, () -> x.agent(so));
        }
        Check.thrown("2: no agent was made", Check.ARGUMENT, () -> x.again(2));
        Check.same("2: all are settled", 1, x.done());
    }

    /** "or there are eight" */
    private static void agentWhenThereAreEight() {
        BargainTree x = Check.problem(2, 2, 2, 2, 2, 2, 2);
        Check.same("2: the eighth", 7, x.agent(2));
        for (int values = 2; values <= 4; values++) {
            int so = values;
            Check.thrown("2: a ninth", Check.STATE, () -> x.agent(so));
        }
        Check.thrown("2: there is no ninth", Check.ARGUMENT, () -> x.own(8, 0, 0));
        x.own(7, 0, 3);
        x.own(7, 1, 4);
        Check.same("2: eight parts", 8, x.start());
        Check.same("2: the eighth counts", 3, x.total());
    }

    /** "each value has an OWN COST (at first 0)" */
    private static void ownCostAtFirst() {
        for (int free = 0; free < 4; free++) {
            BargainTree x = Check.problem(4);
            for (int v = 0; v < 4; v++) {
                if (v != free) {
                    x.own(0, v, 1);
                }
            }
            x.start();
            Check.same("3: the one that costs nothing", free, x.value(0));
            Check.same("3: nothing", 0, x.total());
        }
    }

    /** "An own cost." "Costs are 0 .. 999 or NEVER." */
    private static void ownCost() {
        for (int cost : new int[] {0, 1, 998, 999}) {
            BargainTree x = Check.problem(2);
            x.own(0, 0, 17);
            x.own(0, 0, cost);
            x.own(0, 1, NEVER);
            x.start();
            Check.same("3: the latest cost", cost, x.total());
            Check.same("3: the value", 0, x.value(0));
        }
        BargainTree x = Check.problem(2);
        x.own(0, 0, NEVER);
        x.own(0, 1, NEVER);
        x.start();
        Check.same("3: never", 2, x.done());
        BargainTree y = Check.problem(2);
        y.own(0, 0, NEVER);
        y.own(0, 0, 999);
        y.own(0, 1, NEVER);
        y.own(0, 1, 998);
        y.start();
        Check.same("3: never no more", 998, y.total());
    }

    /** "IllegalArgumentException when there is no such agent" */
    private static void ownNoSuchAgent() {
        BargainTree x = new BargainTree();
        for (int agents = 0; agents <= 8; agents++) {
            for (int a : Check.outside(0, agents - 1)) {
                Check.thrown("3: own(" + a + ", 0, 1)", Check.ARGUMENT, () -> x.own(a, 0, 1));
            }
            if (agents < 8) {
                x.agent(2);
                x.own(agents, 0, 0);
            }
        }
        x.start();
        Check.same("3: no cost was set", 0, x.total());
    }

    /** "or value" */
    private static void ownNoSuchValue() {
        BargainTree x = Check.problem(2, 3, 4);
        for (int agent = 0; agent < 3; agent++) {
            int a = agent;
            x.own(a, 0, 0);
            x.own(a, a + 1, 0);
            for (int value : Check.outside(0, a + 1)) {
                Check.thrown("3: own(" + a + ", " + value + ", 1)", Check.ARGUMENT, () -> x.own(a, value, 1));
            }
        }
        x.start();
        Check.same("3: no cost was set", 0, x.total());
    }

    /** "or cost is not 0 .. 999 or NEVER" */
    private static void ownNoSuchCost() {
        BargainTree x = Check.problem(2);
        x.own(0, 0, 7);
        x.own(0, 1, NEVER);
        for (int cost : Check.NO_COSTS) {
            Check.thrown("3: own(0, 0, " + cost + ")", Check.ARGUMENT, () -> x.own(0, 0, cost));
            Check.thrown("3: own(0, 1, " + cost + ")", Check.ARGUMENT, () -> x.own(0, 1, cost));
        }
        x.start();
        Check.same("3: no cost was set", 7, x.total());
        Check.same("3: nor never taken away", 0, x.value(0));
    }

    /** "IllegalStateException when the problem is not open." */
    private static void ownNotOpen() {
        BargainTree x = Check.problem(2, 2);
        x.pair(0, 1);
        x.own(1, 0, 4);
        x.own(1, 1, 4);
        x.start();
        Check.thrown("3: not open", Check.STATE, () -> x.own(1, 0, 3));
        Check.thrown("3: not open", Check.STATE, () -> x.own(1, 1, NEVER));
        Check.deliverAll(x);
        Check.thrown("3: nor when all is done", Check.STATE, () -> x.own(0, 0, 0));
        Check.same("3: no cost was set", 4, x.total());
    }

    /** "A new pair: how many there are." */
    private static void pairCount() {
        BargainTree x = Check.problem(2, 2, 2, 2);
        Check.same("4: one", 1, x.pair(0, 3));
        Check.same("4: two", 2, x.pair(2, 1));
        Check.same("4: three", 3, x.pair(3, 1));
        Check.thrown("4: 0 and 1 are none", Check.ARGUMENT, () -> x.cost(0, 1, 0, 0, 1));
        x.cost(1, 2, 0, 0, 1);
        x.cost(2, 1, 0, 0, 0);
        Check.same("4: one part", 1, x.start());
    }

    /** "IllegalArgumentException when there are no such two agents" */
    private static void pairNoSuchAgents() {
        BargainTree none = new BargainTree();
        Check.thrown("4: no agents", Check.ARGUMENT, () -> none.pair(0, 1));
        none.agent(2);
        Check.thrown("4: one agent", Check.ARGUMENT, () -> none.pair(0, 1));
        Check.thrown("4: one agent", Check.ARGUMENT, () -> none.pair(1, 0));
        Check.thrown("4: one agent alone", Check.ARGUMENT, () -> none.pair(0, 0));
        none.agent(2);
        Check.same("4: two agents", 1, none.pair(0, 1));
        BargainTree x = Check.problem(2, 2, 2, 2, 2, 2, 2, 2);
        for (int bad : Check.outside(0, 7)) {
            Check.thrown("4: pair(0, " + bad + ")", Check.ARGUMENT, () -> x.pair(0, bad));
            Check.thrown("4: pair(" + bad + ", 7)", Check.ARGUMENT, () -> x.pair(bad, 7));
            Check.thrown("4: pair(" + bad + ", " + bad + ")", Check.ARGUMENT, () -> x.pair(bad, bad));
        }
        for (int agent = 0; agent < 8; agent++) {
            int a = agent;
            Check.thrown("4: pair(" + a + ", " + a + ")", Check.ARGUMENT, () -> x.pair(a, a));
        }
        Check.same("4: no pair was made", 1, x.pair(7, 0));
        Check.same("4: nobody was joined", 7, x.start());
    }

    /** "IllegalStateException when the problem is not open" */
    private static void pairNotOpen() {
        BargainTree x = Check.problem(2, 2, 2);
        x.pair(0, 1);
        x.start();
        Check.thrown("4: not open", Check.STATE, () -> x.pair(1, 2));
        Check.thrown("4: not open, and a pair already", Check.STATE, () -> x.pair(0, 1));
        Check.deliverAll(x);
        Check.thrown("4: no pair was made", Check.ARGUMENT, () -> x.change(1, 2, 0, 0, 1));
    }

    /** "they are a pair already" */
    private static void pairAlready() {
        BargainTree x = Check.problem(2, 2, 2);
        x.pair(2, 1);
        x.cost(2, 1, 0, 0, 9);
        Check.thrown("4: once more", Check.STATE, () -> x.pair(2, 1));
        Check.thrown("4: turned round", Check.STATE, () -> x.pair(1, 2));
        Check.same("4: with another one", 2, x.pair(1, 0));
        Check.thrown("4: the second one once more", Check.STATE, () -> x.pair(0, 1));
        Check.thrown("4: the first one once more", Check.STATE, () -> x.pair(2, 1));
        Check.same("4: the last two", 3, x.pair(0, 2));
        x.cost(1, 2, 0, 1, 9);
        x.cost(1, 2, 1, 0, 9);
        x.cost(1, 2, 1, 1, 9);
        x.start();
        Check.deliverAll(x);
        Check.same("4: its costs stayed", 9, x.total());
    }

    /** "or there are twelve"; "PAIRS join two agents, which are NEIGHBOURS then, at most 12" */
    private static void pairWhenThereAreTwelve() {
        BargainTree x = Check.problem(2, 2, 2, 2, 2, 2, 2, 2);
        Check.join(x, TWELVE.substring(0, TWELVE.length() - 4));
        Check.same("4: the twelfth", 12, x.pair(3, 2));
        for (int a = 0; a < 8; a++) {
            for (int b = a + 1; b < 8; b++) {
                int one = a;
                int other = b;
                Check.thrown("4: a thirteenth", Check.STATE, () -> x.pair(one, other));
            }
        }
        Check.thrown("4: the thirteenth is none", Check.ARGUMENT, () -> x.cost(5, 6, 0, 0, 1));
        Check.costAll(x, 2, 3, 8);
        Check.same("4: 7 was not joined", 2, x.start());
        Check.deliverAll(x);
        Check.same("4: the twelfth counts", 8, x.total());
    }

    /** "each two values of a pair have a COST (at first 0)" */
    private static void costAtFirst() {
        for (int free = 0; free < 6; free++) {
            BargainTree x = Check.problem(2, 3);
            x.pair(0, 1);
            for (int v = 0; v < 6; v++) {
                if (v != free) {
                    x.cost(0, 1, v / 3, v % 3, 1);
                }
            }
            x.start();
            Check.deliverAll(x);
            Check.same("5: nothing", 0, x.total());
            Check.same("5: the value that costs nothing", free / 3, x.value(0));
            Check.same("5: with the other one's", free % 3, x.value(1));
        }
    }

    /** "A cost of two values of a pair." */
    private static void cost() {
        for (int cost : new int[] {0, 1, 998, 999, NEVER}) {
            BargainTree x = Check.problem(2, 2);
            x.pair(0, 1);
            Check.costAll(x, 0, 1, NEVER);
            x.cost(0, 1, 1, 0, 3);
            x.cost(1, 0, 0, 1, cost);
            x.start();
            Check.deliverAll(x);
            Check.same("5: the latest cost " + cost, cost == NEVER ? NONE : cost, x.total());
            Check.same("5: done()", cost == NEVER ? 2 : 1, x.done());
        }
        BargainTree x = Check.problem(2, 3);
        x.pair(1, 0);
        x.own(0, 0, 7);
        x.own(0, 1, NEVER);
        x.own(1, 0, 3);
        x.own(1, 1, 1);
        x.cost(0, 1, 0, 0, 10);
        x.cost(1, 0, 1, 0, 20);
        x.cost(0, 1, 0, 2, NEVER);
        x.start();
        Check.deliverAll(x);
        Check.same("5: own costs and that of the pair", 7 + 3 + 10, x.total());
    }

    /** "IllegalArgumentException when there is no such pair" */
    private static void costNoSuchPair() {
        BargainTree x = Check.problem(2, 2, 2);
        Check.thrown("5: no pair yet", Check.ARGUMENT, () -> x.cost(0, 1, 0, 0, 1));
        x.pair(0, 1);
        x.cost(0, 1, 0, 0, 0);
        x.cost(1, 0, 0, 0, 0);
        Check.thrown("5: 0 and 2", Check.ARGUMENT, () -> x.cost(0, 2, 0, 0, 1));
        Check.thrown("5: 2 and 1", Check.ARGUMENT, () -> x.cost(2, 1, 0, 0, 1));
        for (int a = 0; a < 3; a++) {
            int one = a;
            Check.thrown("5: one agent", Check.ARGUMENT, () -> x.cost(one, one, 0, 0, 1));
        }
        for (int bad : Check.outside(0, 2)) {
            Check.thrown("5: cost(" + bad + ", 1, 0, 0, 1)", Check.ARGUMENT, () -> x.cost(bad, 1, 0, 0, 1));
            Check.thrown("5: cost(0, " + bad + ", 0, 0, 1)", Check.ARGUMENT, () -> x.cost(0, bad, 0, 0, 1));
            Check.thrown("5: cost of " + bad + " alone", Check.ARGUMENT, () -> x.cost(bad, bad, 0, 0, 1));
        }
        x.start();
        x.letter(0, 0);
        Check.content("5: no cost was set", x, 1, 0, 0);
    }

    /** "or value" */
    private static void costNoSuchValue() {
        BargainTree x = Check.problem(2, 4, 3);
        Check.join(x, "1-0 1-2");
        int[] values = {2, 4, 3};
        int[][] pairs = {{0, 1}, {1, 0}, {1, 2}, {2, 1}};
        for (int[] p : pairs) {
            x.cost(p[0], p[1], values[p[0]] - 1, values[p[1]] - 1, 0);
            for (int bad : Check.outside(0, values[p[0]] - 1)) {
                Check.thrown("5: value " + bad + " of the first", Check.ARGUMENT, () -> x.cost(p[0], p[1], bad, 0, 1));
            }
            for (int bad : Check.outside(0, values[p[1]] - 1)) {
                Check.thrown("5: value " + bad + " of the second", Check.ARGUMENT, () -> x.cost(p[0], p[1], 0, bad, 1));
            }
        }
        x.start();
        x.letter(0, 0);
        Check.content("5: no cost was set", x, 1, 0, 0, 0, 0);
    }

    /** "or cost is not 0 .. 999 or NEVER" */
    private static void costNoSuchCost() {
        BargainTree x = Check.problem(2, 2);
        x.pair(0, 1);
        Check.costAll(x, 0, 1, 6);
        x.cost(0, 1, 0, 0, NEVER);
        for (int cost : Check.NO_COSTS) {
            Check.thrown("5: cost(0, 1, 0, 0, " + cost + ")", Check.ARGUMENT, () -> x.cost(0, 1, 0, 0, cost));
            Check.thrown("5: cost(1, 0, 1, 1, " + cost + ")", Check.ARGUMENT, () -> x.cost(1, 0, 1, 1, cost));
        }
        x.start();
        Check.deliverAll(x);
        Check.same("5: no cost was set", 6, x.total());
        Check.same("5: nor never taken away", 1, x.value(1));
    }

    /** "IllegalStateException when the problem is not open." */
    private static void costNotOpen() {
        BargainTree x = Check.problem(2, 2);
        x.pair(0, 1);
        Check.costAll(x, 0, 1, 6);
        x.start();
        Check.thrown("5: not open", Check.STATE, () -> x.cost(0, 1, 0, 0, 1));
        Check.thrown("5: not open", Check.STATE, () -> x.cost(1, 0, 1, 1, NEVER));
        Check.deliverAll(x);
        Check.thrown("5: nor when all is done", Check.STATE, () -> x.cost(0, 1, 0, 0, 1));
        Check.same("5: no cost was set", 6, x.total());
    }

    /** "IllegalStateException when ... there is no agent." */
    private static void startNoAgent() {
        BargainTree x = new BargainTree();
        Check.thrown("6: no agent", Check.STATE, x::start);
        Check.same("6: it is open still", 0, x.agent(2));
        x.own(0, 0, 1);
        Check.same("6: one agent", 1, x.start());
        Check.same("6: it is settled", 1, x.value(0));
    }

    /** "IllegalStateException when the problem is not open"; "A problem is OPEN until it is started." */
    private static void startNotOpen() {
        BargainTree x = Check.started(2, "0-1");
        String before = Check.look(x, 2);
        Check.thrown("6: twice", Check.STATE, x::start);
        Check.same("6: nothing happened", before, Check.look(x, 2));
        Check.deliverAll(x);
        before = Check.look(x, 2);
        Check.thrown("6: when all is done", Check.STATE, x::start);
        Check.same("6: nothing happened", before, Check.look(x, 2));
    }

    /** "how many parts there are"; "A PART are agents that are joined by pairs, directly or over others" */
    private static void startParts() {
        BargainTree alone = Check.problem(2, 2, 2, 2, 2, 2, 2, 2);
        Check.same("6: eight alone", 8, alone.start());
        Check.same("6: nobody sends", NONE, alone.told(0, 0));
        Check.same("6: all are settled", 1, alone.done());
        BargainTree chain = Check.problem(2, 2, 2, 2, 2, 2, 2, 2);
        Check.join(chain, "7-3 3-0 0-5 5-1 1-6 6-2 2-4");
        Check.same("6: joined over others", 1, chain.start());
        BargainTree two = Check.problem(2, 2, 2, 2, 2, 2, 2, 2);
        Check.join(two, "7-3 3-0 0-5 1-6 6-2 2-4");
        Check.same("6: a chain that is cut", 2, two.start());
        BargainTree last = Check.problem(2, 2, 2, 2, 2, 2, 2, 2);
        Check.join(last, "0-1 0-2 0-3 0-4 0-5 0-6");
        Check.same("6: all but the last one", 2, last.start());
    }

    /** "(roots by their numbers, from the least on)" */
    private static void startRootsInOrder() {
        BargainTree x = Check.problem(2, 2, 2, 2, 2, 2, 2);
        Check.join(x, "0-5 5-3 1-2");
        Check.same("6: parts", 4, x.start());
        Check.same("6: letters", 2, Check.lettersOf(x));
        Check.letter("6: the least root's", x, 0, 0, 1, 2, 1 << 1, 0);
        Check.letter("6: the next root's", x, 1, 0, 5, 0, 1 << 5, 0);
        Check.same("6: a root alone is through", 0, x.separator(4));
        Check.same("6: and settled", 0, x.value(6));
        Check.same("6: tables", 2, x.tables());
        Check.same("6: done()", 0, x.done());
        BargainTree four = Check.problem(2, 2, 2, 2, 2, 2, 2, 2);
        Check.join(four, "7-0 6-1 5-2 4-3");
        Check.same("6: parts", 4, four.start());
        for (int k = 0; k < 4; k++) {
            Check.letter("6: letter " + k, four, k, 0, k, 7 - k, 1 << k, 0);
        }
    }

    /** Where arguments and state are both wrong, the document names the arguments first. */
    private static void argumentsBeforeStates() {
        BargainTree full = Check.problem(2, 2, 2, 2, 2, 2, 2, 2);
        Check.join(full, TWELVE);
        Check.thrown("2: a ninth with wrong values", Check.ARGUMENT, () -> full.agent(5));
        Check.thrown("4: a thirteenth of one agent", Check.ARGUMENT, () -> full.pair(5, 5));
        Check.thrown("4: a thirteenth of no agent", Check.ARGUMENT, () -> full.pair(7, 8));
        BargainTree x = Check.started(3, "0-1");
        Check.thrown("2: not open, wrong values", Check.ARGUMENT, () -> x.agent(1));
        Check.thrown("3: not open, no such agent", Check.ARGUMENT, () -> x.own(3, 0, 1));
        Check.thrown("3: not open, no such value", Check.ARGUMENT, () -> x.own(0, 2, 1));
        Check.thrown("3: not open, no such cost", Check.ARGUMENT, () -> x.own(0, 0, -1));
        Check.thrown("4: not open, no such agent", Check.ARGUMENT, () -> x.pair(0, 3));
        Check.thrown("4: not open, one agent", Check.ARGUMENT, () -> x.pair(2, 2));
        Check.thrown("5: not open, no such pair", Check.ARGUMENT, () -> x.cost(0, 2, 0, 0, 1));
        Check.thrown("5: not open, no such value", Check.ARGUMENT, () -> x.cost(0, 1, 0, 2, 1));
        Check.thrown("5: not open, no such cost", Check.ARGUMENT, () -> x.cost(0, 1, 0, 0, 1000));
    }
}
