import java.util.Arrays;

/** Agents that bargain by letters for the cheapest assignment of values; ../shared/DOC.md says what each call does. */
public final class BargainTree {
    public static final int NONE = -1;
    public static final int NEVER = -2;

    private static final int MOST_AGENTS = 8;
    private static final int FEWEST_VALUES = 2;
    private static final int MOST_VALUES = 4;
    private static final int MOST_PAIRS = 12;
    private static final int MOST_LETTERS = 20;
    private static final int MOST_ENTRIES = 256;
    private static final int GREATEST_COST = 999;
    private static final int FIRST_RUN = 1;

    private static final int TOKEN = 0;
    private static final int BACK = 1;
    private static final int TABLE = 2;
    private static final int CHOICE = 3;

    private static final int DELIVERED = 0;
    private static final int LOST = 1;
    private static final int DOUBLED = 2;

    private static final int TOLD_KIND = 0;
    private static final int TOLD_FROM = 1;
    private static final int TOLD_TO = 2;
    private static final int TOLD_STAMP = 3;
    private static final int TOLD_COUNT = 4;
    private static final int TOLD_CONTENT = 10;

    private static final int UNDONE = 0;
    private static final int ALL_SETTLED = 1;
    private static final int NONE_FOUND = 2;
    private static final int STUCK = 3;

    private final Agent[] agents = new Agent[MOST_AGENTS];
    private int agentCount;
    private final Pair[] pairs = new Pair[MOST_PAIRS];
    private int pairCount;
    private final Letter[] letters = new Letter[MOST_LETTERS];
    private int letterCount;
    private final int[] tried = new int[MOST_AGENTS];
    private boolean open = true;
    private int tablesMade;

    public BargainTree() {
    }

    public int agent(int values) throws IllegalArgumentException, IllegalStateException {
        if (values < FEWEST_VALUES || values > MOST_VALUES) {
            throw new IllegalArgumentException("an agent has 2 to 4 values");
        }
        if (!open || agentCount == MOST_AGENTS) {
            throw new IllegalStateException("no more agents");
        }
        agents[agentCount] = new Agent(agentCount, values);
        agentCount++;
        return agentCount - 1;
    }

    public void own(int a, int value, int cost) throws IllegalArgumentException, IllegalStateException {
        if (!isValue(a, value) || !isCost(cost)) {
            throw new IllegalArgumentException("no such agent, value or cost");
        }
        if (!open) {
            throw new IllegalStateException("started already");
        }
        agents[a].ownCosts[value] = cost;
    }

    public int pair(int a, int b) throws IllegalArgumentException, IllegalStateException {
        if (!isAgent(a) || !isAgent(b) || a == b) {
            throw new IllegalArgumentException("no such two agents");
        }
        if (!open || pairCount == MOST_PAIRS || pairOf(a, b) != null) {
            throw new IllegalStateException("no such pair can be made");
        }
        pairs[pairCount] = new Pair(Math.min(a, b), Math.max(a, b));
        pairCount++;
        agents[a].neighbours |= 1 << b;
        agents[b].neighbours |= 1 << a;
        return pairCount;
    }

    public void cost(int a, int b, int valueA, int valueB, int cost)
            throws IllegalArgumentException, IllegalStateException {
        Pair pair = pairWith(a, b, valueA, valueB);
        if (pair == null || !isCost(cost)) {
            throw new IllegalArgumentException("no such pair, value or cost");
        }
        if (!open) {
            throw new IllegalStateException("started already");
        }
        pair.costs[pair.place(a, valueA, valueB)] = cost;
    }

    public int start() throws IllegalStateException {
        if (!open || agentCount == 0) {
            throw new IllegalStateException("started already, or no agent");
        }
        open = false;
        findParts();
        int parts = 0;
        for (int i = 0; i < agentCount; i++) {
            if (agents[i].isRoot()) {
                parts++;
                agents[i].mask = 1 << i;
                if (hold(agents[i])) {
                    makeTable(agents[i], FIRST_RUN);
                }
            }
        }
        return parts;
    }

    public int letter(int k, int action)
            throws IllegalArgumentException, IndexOutOfBoundsException, IllegalStateException {
        if (action < DELIVERED || action > DOUBLED) {
            throw new IllegalArgumentException("no such action");
        }
        if (!isLetter(k)) {
            throw new IndexOutOfBoundsException("no such letter");
        }
        if (action == DOUBLED && letterCount == MOST_LETTERS) {
            throw new IllegalStateException("no room for one more letter");
        }
        Letter letter = letters[k];
        if (action == DOUBLED) {
            // Letters never change, so the row may hold the same one twice.
            letters[letterCount] = letter;
            letterCount++;
            return letterCount;
        }
        takeOut(k);
        if (action != LOST) {
            deliver(letter);
        }
        return letterCount;
    }

    public int told(int k, int what) {
        if (!isLetter(k)) {
            return NONE;
        }
        Letter letter = letters[k];
        switch (what) {
            case TOLD_KIND:
                return letter.kind;
            case TOLD_FROM:
                return letter.from;
            case TOLD_TO:
                return letter.to;
            case TOLD_STAMP:
                return letter.stamp;
            case TOLD_COUNT:
                return letter.contentCount();
            default:
                return what < TOLD_CONTENT ? NONE : letter.contentAt(what - TOLD_CONTENT);
        }
    }

    public int again(int a) throws IllegalArgumentException, IllegalStateException {
        if (!isAgent(a)) {
            throw new IllegalArgumentException("no such agent");
        }
        if (open) {
            throw new IllegalStateException("not started");
        }
        Agent agent = agents[a];
        if (agent.stage == Stage.WAITS) {
            sendToken(agent);
        }
        if (agent.stage == Stage.THROUGH) {
            sendBack(agent);
        }
        if (agent.table != null) {
            sendTable(agent);
        }
        if (agent.choice != null) {
            sendChoices(agent);
        }
        return letterCount;
    }

    public int change(int a, int b, int valueA, int valueB, int cost)
            throws IllegalArgumentException, IllegalStateException {
        Pair pair = pairWith(a, b, valueA, valueB);
        if (pair == null || !isCost(cost)) {
            throw new IllegalArgumentException("no such pair, value or cost");
        }
        int state = done();
        if (state != ALL_SETTLED && state != NONE_FOUND) {
            throw new IllegalStateException("something is still to be done");
        }
        pair.costs[pair.place(a, valueA, valueB)] = cost;
        Part part = agents[a].part;
        part.run++;
        tablesMade = 0;
        makeTable(contains(agents[a].ancestors, b) ? agents[a] : agents[b], part.run);
        return letterCount;
    }

    public int done() {
        if (open) {
            return UNDONE;
        }
        boolean ended = true;
        boolean noneFound = false;
        for (int i = 0; i < agentCount; i++) {
            if (agents[i].tooWide) {
                return STUCK;
            }
            boolean noneForPart = agents[i].part.foundNone();
            noneFound = noneFound || noneForPart;
            ended = ended && (noneForPart || agents[i].isSettled());
        }
        if (!ended) {
            return UNDONE;
        }
        return noneFound ? NONE_FOUND : ALL_SETTLED;
    }

    public int value(int a) {
        return isAgent(a) && agents[a].isSettled() ? agents[a].choice[a] : NONE;
    }

    public int total() {
        if (done() != ALL_SETTLED) {
            return NONE;
        }
        int sum = 0;
        for (int i = 0; i < agentCount; i++) {
            if (agents[i].isRoot()) {
                sum += agents[i].table[0];
            }
        }
        return sum;
    }

    public int parent(int a) {
        return isAgent(a) ? agents[a].parent : NONE;
    }

    public int separator(int a) {
        return isAgent(a) && agents[a].stage == Stage.THROUGH ? agents[a].separator : NONE;
    }

    public int entries(int a) {
        return isAgent(a) && agents[a].table != null ? agents[a].table.length : NONE;
    }

    public int tables() {
        return tablesMade;
    }

    private boolean isAgent(int a) {
        return a >= 0 && a < agentCount;
    }

    private boolean isValue(int a, int value) {
        return isAgent(a) && value >= 0 && value < agents[a].values;
    }

    private boolean isLetter(int k) {
        return k >= 0 && k < letterCount;
    }

    private static boolean isCost(int cost) {
        return cost == NEVER || cost >= 0 && cost <= GREATEST_COST;
    }

    private static boolean contains(int mask, int a) {
        return (mask >> a & 1) == 1;
    }

    private static int plus(int cost, int more) {
        return cost == NEVER || more == NEVER ? NEVER : cost + more;
    }

    private static int lesser(int cost, int other) {
        if (cost == NEVER) {
            return other;
        }
        return other == NEVER ? cost : Math.min(cost, other);
    }

    private Pair pairOf(int a, int b) {
        for (int i = 0; i < pairCount; i++) {
            if (pairs[i].low == Math.min(a, b) && pairs[i].high == Math.max(a, b)) {
                return pairs[i];
            }
        }
        return null;
    }

    /** The pair of a and b, if they are one and have these values. */
    private Pair pairWith(int a, int b, int valueA, int valueB) {
        return isValue(a, valueA) && isValue(b, valueB) ? pairOf(a, b) : null;
    }

    private void findParts() {
        for (int i = 0; i < agentCount; i++) {
            if (agents[i].part == null) {
                int members = partOf(i);
                join(members, new Part(agents[mostJoined(members)]));
            }
        }
    }

    private void join(int members, Part part) {
        for (int i = 0; i < agentCount; i++) {
            if (contains(members, i)) {
                agents[i].part = part;
            }
        }
    }

    private int partOf(int a) {
        int members = 1 << a;
        // Each round reaches one pair further, and no agent is further off than there are agents.
        for (int round = 0; round < agentCount; round++) {
            for (int i = 0; i < agentCount; i++) {
                if (contains(members, i)) {
                    members |= agents[i].neighbours;
                }
            }
        }
        return members;
    }

    private int mostJoined(int mask) {
        int best = NONE;
        int most = NONE;
        for (int i = 0; i < agentCount; i++) {
            int joined = Integer.bitCount(agents[i].neighbours);
            if (contains(mask, i) && joined > most) {
                best = i;
                most = joined;
            }
        }
        return best;
    }

    private void deliver(Letter letter) {
        Agent to = agents[letter.to];
        switch (letter.kind) {
            case TOKEN:
                if (takesToken(to, letter) && hold(to)) {
                    makeTable(to, FIRST_RUN);
                }
                break;
            case BACK:
                if (takesBack(to, letter) && hold(to)) {
                    makeTable(to, FIRST_RUN);
                }
                break;
            case TABLE:
                if (takesTable(to, letter)) {
                    makeTable(to, letter.stamp);
                }
                break;
            default:
                if (letter.stamp > to.settledRun) {
                    choose(to, letter.stamp, letter.content);
                }
                break;
        }
    }

    /** Whether the agent holds the token by this letter. */
    private boolean takesToken(Agent a, Letter letter) {
        if (a.stage == Stage.NEW) {
            a.parent = letter.from;
            a.ancestors = a.neighbours & letter.stamp;
            a.mask = letter.stamp | 1 << a.number;
            return true;
        }
        if (a.stage == Stage.THROUGH && a.parent == letter.from) {
            sendBack(a);
        }
        return false;
    }

    /** Whether the agent holds the token by this letter. */
    private boolean takesBack(Agent a, Letter letter) {
        if (a.stage != Stage.WAITS || a.awaited != letter.from) {
            return false;
        }
        a.mask = letter.stamp;
        return true;
    }

    /** Whether the agent is to make its own table by this letter. */
    private boolean takesTable(Agent a, Letter letter) {
        Child child = a.childWith(letter.from);
        if (child == null || letter.stamp <= child.run) {
            return false;
        }
        child.run = letter.stamp;
        child.table = letter.content;
        return a.stage == Stage.THROUGH && a.hasAllTables();
    }

    /** The agent passes the token on to a new child, or is through: whether it is to make its table then. */
    private boolean hold(Agent a) {
        int next = mostJoined(a.neighbours & ~a.mask);
        if (next != NONE) {
            a.addChild(agents[next]);
            a.awaited = next;
            a.stage = Stage.WAITS;
            sendToken(a);
            return false;
        }
        a.stage = Stage.THROUGH;
        a.findSeparator();
        sendBack(a);
        return a.hasAllTables();
    }

    private void makeTable(Agent a, int run) {
        int size = tableSize(a.separator);
        if (size > MOST_ENTRIES) {
            a.tooWide = true;
            return;
        }
        // Letters under way keep the earlier table, so a new one needs a row of its own.
        int[] table = new int[size];
        for (int i = 0; i < size; i++) {
            tryEntry(a.separator, i);
            table[i] = leastCost(a);
        }
        a.table = table;
        a.tableRun = run;
        tablesMade++;
        if (a.isRoot()) {
            choose(a, run, nothingTold());
        } else {
            sendTable(a);
        }
    }

    private int tableSize(int separator) {
        int size = 1;
        for (int i = 0; i < agentCount; i++) {
            if (contains(separator, i)) {
                size *= agents[i].values;
            }
        }
        return size;
    }

    private void tryEntry(int separator, int entry) {
        int rest = entry;
        for (int i = 0; i < agentCount; i++) {
            if (contains(separator, i)) {
                tried[i] = rest % agents[i].values;
                rest /= agents[i].values;
            }
        }
    }

    /** The entry of a table over a separator that belongs to these values. */
    private int entryAt(int[] table, int separator, int[] values) {
        int place = 0;
        int step = 1;
        for (int i = 0; i < agentCount; i++) {
            if (contains(separator, i)) {
                place += values[i] * step;
                step *= agents[i].values;
            }
        }
        return table != null && place >= 0 && place < table.length ? table[place] : NEVER;
    }

    private int leastCost(Agent a) {
        int least = NEVER;
        for (int v = 0; v < a.values; v++) {
            tried[a.number] = v;
            least = lesser(least, costWith(a, tried));
        }
        return least;
    }

    private int costWith(Agent a, int[] values) {
        int sum = a.ownCosts[values[a.number]];
        for (int i = 0; i < pairCount; i++) {
            Pair pair = pairs[i];
            if (pair.joinsUpwards(a)) {
                sum = plus(sum, pair.costs[pair.place(pair.low, values[pair.low], values[pair.high])]);
            }
        }
        for (int i = 0; i < a.childCount; i++) {
            Child child = a.children[i];
            sum = plus(sum, entryAt(child.table, child.agent.separator, values));
        }
        return sum;
    }

    private static int[] nothingTold() {
        int[] values = new int[MOST_AGENTS];
        Arrays.fill(values, NONE);
        return values;
    }

    private void choose(Agent a, int run, int[] toldValues) {
        int due = entryAt(a.table, a.separator, toldValues);
        if (due == NEVER) {
            // Only a root comes here: it sends no choice then, so no other one has to choose.
            a.part.noneRun = run;
            return;
        }
        // The letter that told the values may have doubles under way, so they are not written over.
        int[] values = toldValues.clone();
        values[a.number] = 0;
        for (int v = 1; v < a.values && costWith(a, values) != due; v++) {
            values[a.number] = v;
        }
        a.choice = values;
        a.settledRun = run;
        sendChoices(a);
    }

    private void sendToken(Agent a) {
        send(new Letter(TOKEN, a.number, a.awaited, a.mask, null));
    }

    private void sendBack(Agent a) {
        if (a.parent != NONE) {
            send(new Letter(BACK, a.number, a.parent, a.mask, null));
        }
    }

    private void sendTable(Agent a) {
        if (a.parent != NONE) {
            send(new Letter(TABLE, a.number, a.parent, a.tableRun, a.table));
        }
    }

    private void sendChoices(Agent a) {
        for (int i = 0; i < a.childCount; i++) {
            send(new Letter(CHOICE, a.number, a.children[i].agent.number, a.settledRun, a.choice));
        }
    }

    private void send(Letter letter) {
        if (letterCount < MOST_LETTERS) {
            letters[letterCount] = letter;
            letterCount++;
        }
    }

    private void takeOut(int k) {
        letterCount--;
        for (int i = k; i < letterCount; i++) {
            letters[i] = letters[i + 1];
        }
        letters[letterCount] = null;
    }

    private enum Stage { NEW, WAITS, THROUGH }

    private static final class Agent {
        final int number;
        final int values;
        final int[] ownCosts = new int[MOST_VALUES];
        final Child[] children = new Child[MOST_AGENTS - 1];
        int childCount;
        int neighbours;
        Part part;
        Stage stage = Stage.NEW;
        int mask;
        int ancestors;
        int parent = NONE;
        /** The child that is waited for, while it waits. */
        int awaited = NONE;
        int separator;
        boolean tooWide;
        int[] table;
        int tableRun;
        /** The values of all agents that it was told, and its own; null before it is settled. */
        int[] choice;
        int settledRun;

        Agent(int number, int values) {
            this.number = number;
            this.values = values;
        }

        boolean isRoot() {
            return part != null && part.root == this;
        }

        boolean isSettled() {
            return choice != null && part != null && settledRun == part.run;
        }

        void addChild(Agent agent) {
            if (childCount < children.length) {
                children[childCount] = new Child(agent);
                childCount++;
            }
        }

        Child childWith(int agentNumber) {
            for (int i = 0; i < childCount; i++) {
                if (children[i].agent.number == agentNumber) {
                    return children[i];
                }
            }
            return null;
        }

        boolean hasAllTables() {
            for (int i = 0; i < childCount; i++) {
                if (children[i].table == null) {
                    return false;
                }
            }
            return true;
        }

        void findSeparator() {
            separator = ancestors;
            for (int i = 0; i < childCount; i++) {
                separator |= children[i].agent.separator;
            }
            separator &= ~(1 << number);
        }
    }

    private static final class Part {
        final Agent root;
        int run = FIRST_RUN;
        /** The latest run in which the root found none, 0 before. */
        int noneRun;

        Part(Agent root) {
            this.root = root;
        }

        boolean foundNone() {
            return noneRun == run;
        }
    }

    /** A child as its parent knows it: with the latest table that came from it. */
    private static final class Child {
        final Agent agent;
        int run;
        int[] table;

        Child(Agent agent) {
            this.agent = agent;
        }
    }

    private static final class Pair {
        final int low;
        final int high;
        final int[] costs = new int[MOST_VALUES * MOST_VALUES];

        Pair(int low, int high) {
            this.low = low;
            this.high = high;
        }

        /** Where the cost stands of value of agent a together with otherValue of the other agent. */
        int place(int a, int value, int otherValue) {
            return a == low ? value * MOST_VALUES + otherValue : otherValue * MOST_VALUES + value;
        }

        boolean joinsUpwards(Agent a) {
            return low == a.number && contains(a.ancestors, high)
                || high == a.number && contains(a.ancestors, low);
        }
    }

    /** Never changed once it is made, nor are the rows that it holds: so letters and agents share them. */
    private static final class Letter {
        final int kind;
        final int from;
        final int to;
        /** The mask of TOKEN and BACK, the run of TABLE and CHOICE. */
        final int stamp;
        /** The entries of TABLE, the values of CHOICE by agents, null of others. */
        final int[] content;

        Letter(int kind, int from, int to, int stamp, int[] content) {
            this.kind = kind;
            this.from = from;
            this.to = to;
            this.stamp = stamp;
            this.content = content;
        }

        int contentCount() {
            if (content == null) {
                return 0;
            }
            // No entry of a table is NONE, so all of them are counted.
            int count = 0;
            for (int i = 0; i < content.length; i++) {
                if (content[i] != NONE) {
                    count++;
                }
            }
            return count;
        }

        int contentAt(int i) {
            return content != null && i < content.length ? content[i] : NONE;
        }
    }
}
