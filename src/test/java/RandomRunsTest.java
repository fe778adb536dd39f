import java.util.Arrays;
import java.util.HashMap;
import java.util.Map;
import java.util.Random;

/**
 * Random problems whose letters are lost, doubled and handed over in any order. The tree is found by a plain
 * walk, and every table, choice, value and total by trying out every assignment. Of the letters some are looked at,
 * as many as 512 calls allow. MOST_ASSIGNMENTS leaves no room for an agent that is too wide, and of larger problems
 * that are made at random hardly any has one: those that may have one are joined by pairs that stand here.
 */
public final class RandomRunsTest {
    private static final int NONE = BargainTree.NONE;
    private static final int NEVER = BargainTree.NEVER;
    private static final int BACK = 1;
    private static final int TABLE = 2;
    private static final int CHOICE = 3;
    private static final int PROBLEMS = 6000;
    private static final int MOST_ASSIGNMENTS = 1500;
    private static final int CALLS_AT_THE_END = 40;
    /** Joined so, there is an agent with five others in its separator. */
    private static final String[] WIDE = {
        "0-1 0-2 0-3 1-5 1-6 2-3 2-4 3-7 4-5 4-7 5-6 6-7",
        "0-1 0-2 0-5 1-3 1-7 2-5 2-6 3-4 3-6 4-5 4-7 6-7",
        "0-1 0-2 0-7 1-4 1-5 2-3 2-5 3-4 3-7 4-6 5-6 6-7",
        "0-1 0-3 0-4 1-6 1-7 2-3 2-4 2-7 3-5 4-5 5-6 6-7",
        "0-1 0-3 0-7 1-2 1-7 2-4 2-5 3-4 3-6 4-6 5-6 5-7",
        "0-1 0-4 0-6 1-3 1-7 2-3 2-4 2-5 3-6 4-7 5-6 5-7",
        "0-2 0-3 0-6 1-2 1-5 1-7 2-4 3-4 3-5 4-7 5-6 6-7",
        "0-2 0-5 0-6 1-4 1-5 1-6 2-4 2-7 3-4 3-5 3-7 6-7",
        "0-3 0-4 0-6 1-5 1-6 1-7 2-4 2-5 2-6 3-5 3-7 4-7",
        "0-4 0-5 0-7 1-2 1-3 1-4 2-5 2-7 3-6 3-7 4-6 5-6",
    };
    private static final int WIDE_PROBLEMS = 200;

    private static int wideToTheEnd;

    private final Random random;
    /** Pairs written like "0-1 1-2", or null where they are made at random. */
    private final String joined;
    private final Counted x = new Counted();
    private final int n;
    private final int[] values;
    private final int[][] own;
    /** By both agents, a * 8 + b; null where there is no pair. */
    private final int[][][] pair = new int[64][][];
    /** The costs of pairs as they were in the runs of a part, by its root and the run. */
    private final Map<String, int[][][]> pairThen = new HashMap<>();
    private final int[] run = new int[8];
    private final int[] parent = new int[8];
    private final int[] root = new int[8];
    private final int[] walked = new int[8];
    private int walkedCount;
    private int pairs;
    private int tablesDue;
    private int letters;
    /** Of so many letters one is lost, and one is doubled. */
    private final int luck;
    /** Of so many costs one is NEVER. */
    private final int hope;

    private RandomRunsTest(long seed) {
        random = new Random(seed);
        luck = 4 + random.nextInt(40);
        hope = 2 + random.nextInt(10);
        joined = null;
        n = 1 + random.nextInt(8);
        values = new int[n];
        own = new int[n][];
        int assignments = 1;
        for (int a = 0; a < n; a++) {
            values[a] = 2 + random.nextInt(3);
            if (assignments * values[a] << n - a - 1 > MOST_ASSIGNMENTS) {
                values[a] = 2;
            }
            assignments *= values[a];
        }
    }

    private RandomRunsTest(long seed, String joined) {
        random = new Random(seed);
        luck = 10 + random.nextInt(40);
        hope = 5 + random.nextInt(20);
        this.joined = joined;
        n = 8;
        values = new int[n];
        own = new int[n][];
        for (int a = 0; a < n; a++) {
            values[a] = 2 + Math.min(2, random.nextInt(5));
        }
    }

    public static void main(String[] args) {
        int[] ends = new int[4];
        for (int seed = 0; seed < PROBLEMS; seed++) {
            new RandomRunsTest(seed).play(ends);
        }
        for (int seed = 0; seed < WIDE_PROBLEMS; seed++) {
            new RandomRunsTest(seed, WIDE[seed % WIDE.length]).play(ends);
        }
        System.out.println("ended: " + Arrays.toString(ends) + ", " + wideToTheEnd + " of the last to the very end");
        Check.same("many runs have an assignment", 1, ends[1] > PROBLEMS / 2 ? 1 : 0);
        Check.same("many have none", 1, ends[2] > PROBLEMS / 2 ? 1 : 0);
        Check.same("some are too wide", 1, wideToTheEnd > WIDE_PROBLEMS / 4 ? 1 : 0);
        Check.end();
    }

    private void play(int[] ends) {
        makeProblem();
        walkAll();
        int parts = 0;
        for (int a = 0; a < n; a++) {
            if (root[a] == a) {
                parts++;
                letters += neighbours(a) > 0 ? 1 : 0;
                nextRun(a);
            }
        }
        tablesDue = n;
        Check.same("start()", parts, x.call().start());
        boolean ended = handOver(ends);
        while (ended && letters < 20 && hasPair() && x.left() > 2 * CALLS_AT_THE_END) {
            changeOne();
            ended = handOver(ends);
        }
    }

    private int someCost() {
        return random.nextInt(hope) == 0 ? NEVER : random.nextInt(6);
    }

    private void makeProblem() {
        for (int a = 0; a < n; a++) {
            x.call().agent(values[a]);
            own[a] = new int[values[a]];
            for (int v = 0; v < values[a]; v++) {
                own[a][v] = someCost();
                x.call().own(a, v, own[a][v]);
            }
        }
        if (joined == null) {
            makePairs();
            return;
        }
        for (String two : joined.split(" ")) {
            makePair(two.charAt(0) - '0', two.charAt(2) - '0');
        }
    }

    private void makePairs() {
        int tries = random.nextInt(25);
        for (int i = 0; i < tries && pairs < 12; i++) {
            int a = random.nextInt(n);
            int b = random.nextInt(n);
            if (a != b && pair[a * 8 + b] == null) {
                makePair(a, b);
            }
        }
    }

    private void makePair(int a, int b) {
        pairs++;
        Check.same("pair", pairs, x.call().pair(a, b));
        pair[a * 8 + b] = new int[values[a]][values[b]];
        pair[b * 8 + a] = new int[values[b]][values[a]];
        for (int v = 0; v < values[a]; v++) {
            for (int w = 0; w < values[b]; w++) {
                int cost = someCost();
                x.call().cost(a, b, v, w, cost);
                setCost(a, b, v, w, cost);
            }
        }
    }

    private void setCost(int a, int b, int v, int w, int cost) {
        pair[a * 8 + b][v][w] = cost;
        pair[b * 8 + a][w][v] = cost;
    }

    /** The costs stay as they are now for all that is made in this run of the part. */
    private void nextRun(int top) {
        run[top]++;
        int[][][] now = new int[64][][];
        for (int i = 0; i < 64; i++) {
            now[i] = pair[i] == null ? null : Arrays.stream(pair[i]).map(int[]::clone).toArray(int[][]::new);
        }
        pairThen.put(top + " " + run[top], now);
    }

    private boolean hasPair() {
        return Arrays.stream(pair).anyMatch(p -> p != null);
    }

    private int neighbours(int a) {
        int count = 0;
        for (int b = 0; b < n; b++) {
            count += pair[a * 8 + b] != null ? 1 : 0;
        }
        return count;
    }

    /** The agent with the most neighbours of all is a root; so is the next one that was not walked to from it. */
    private void walkAll() {
        boolean[] had = new boolean[8];
        while (true) {
            int best = NONE;
            for (int a = 0; a < n; a++) {
                if (!had[a] && (best == NONE || neighbours(a) > neighbours(best))) {
                    best = a;
                }
            }
            if (best == NONE) {
                return;
            }
            walk(best, NONE, best, had);
        }
    }

    private void walk(int a, int from, int top, boolean[] had) {
        had[a] = true;
        parent[a] = from;
        root[a] = top;
        walked[walkedCount++] = a;
        for (int most = n; most > 0; most--) {
            for (int b = 0; b < n; b++) {
                if (pair[a * 8 + b] != null && !had[b] && neighbours(b) == most) {
                    walk(b, a, top, had);
                }
            }
        }
    }

    private boolean isBelow(int a, int top) {
        int at = a;
        while (at != NONE && at != top) {
            at = parent[at];
        }
        return at == top;
    }

    /** The agents above a that are neighbours of a or of one below it. */
    private int separator(int a) {
        int mask = 0;
        for (int b = 0; b < n; b++) {
            for (int c = 0; c < n; c++) {
                if (isBelow(c, a) && !isBelow(b, a) && pair[c * 8 + b] != null) {
                    mask |= 1 << b;
                }
            }
        }
        return mask;
    }

    private int entriesOf(int a) {
        int separator = separator(a);
        int count = 1;
        for (int b = 0; b < n; b++) {
            count *= (separator >> b & 1) == 1 ? values[b] : 1;
        }
        return count;
    }

    /** Hands letters over until all has come to an end, and checks that: whether the calls lasted so long. */
    private boolean handOver(int[] ends) {
        while (x.left() > CALLS_AT_THE_END) {
            if (random.nextInt(3) == 0 || letters == 0) {
                int done = x.call().done();
                if (done != 0) {
                    ends[done]++;
                    checkEnd(done);
                    return done != 3;
                }
            }
            handOne();
            if (letters > 0 && random.nextInt(3) == 0 && x.left() > CALLS_AT_THE_END + 20) {
                checkLetter(random.nextInt(letters));
            }
        }
        return false;
    }

    private void handOne() {
        int what = random.nextInt(luck);
        if (letters == 0 || what == 0) {
            int before = letters;
            letters = x.call().again(random.nextInt(n));
            Check.same("again takes none away", 1, letters >= before && letters <= 20 ? 1 : 0);
        } else if (what == 1) {
            letters--;
            Check.same("lost", letters, x.call().letter(random.nextInt(letters + 1), 1));
        } else if (what == 2 && letters < 20) {
            letters++;
            Check.same("doubled", letters, x.call().letter(random.nextInt(letters - 1), 2));
        } else {
            letters = x.call().letter(random.nextInt(letters), 0);
        }
    }

    private void changeOne() {
        int a;
        int b;
        do {
            a = random.nextInt(n);
            b = random.nextInt(n);
        } while (pair[a * 8 + b] == null);
        int v = random.nextInt(values[a]);
        int w = random.nextInt(values[b]);
        int cost = someCost();
        setCost(a, b, v, w, cost);
        nextRun(root[a]);
        int changed = isBelow(a, b) ? a : b;
        tablesDue = 0;
        for (int at = changed; at != NONE; at = parent[at]) {
            tablesDue++;
        }
        letters++;
        Check.same("change", letters, x.call().change(a, b, v, w, cost));
        Check.same("its table is the last letter", TABLE, x.call().told(letters - 1, 0));
        Check.same("it is from the lower one", changed, x.call().told(letters - 1, 1));
        Check.same("it is of the part's run", run[root[a]], x.call().told(letters - 1, 3));
    }

    private void checkLetter(int k) {
        int kind = x.call().told(k, 0);
        int from = x.call().told(k, 1);
        int to = x.call().told(k, 2);
        boolean upwards = kind == BACK || kind == TABLE;
        Check.same("along the tree", upwards ? parent[from] : from, upwards ? to : parent[to]);
        if (kind < TABLE) {
            Check.same("4: a token or back has none", 0, x.call().told(k, 4));
            return;
        }
        int[][][] costs = pairThen.get(root[from] + " " + x.call().told(k, 3));
        Check.same("a run that there was", 1, costs != null ? 1 : 0);
        if (costs != null && kind == TABLE) {
            int[] due = tableOf(from, costs);
            Check.same("how many entries", due.length, x.call().told(k, 4));
            for (int i = 0; i < Math.min(8, due.length + 1); i++) {
                int entry = due.length < 8 ? i : random.nextInt(due.length + 1);
                Check.same("entry " + entry, entry < due.length ? due[entry] : NONE, x.call().told(k, 10 + entry));
            }
        }
        if (costs != null && kind == CHOICE) {
            int[] best = bestOf(root[from], costs);
            Check.same("there is something to choose", 1, best != null ? 1 : 0);
            checkChoice(k, from, best != null ? best : new int[n]);
        }
    }

    private void checkChoice(int k, int from, int[] best) {
        int count = 0;
        for (int a = 0; a < 8; a++) {
            boolean toldOf = a < n && isBelow(from, a);
            Check.same("value of " + a, toldOf ? best[a] : NONE, x.call().told(k, 10 + a));
            count += toldOf ? 1 : 0;
        }
        Check.same("how many values", count, x.call().told(k, 4));
    }

    private void checkEnd(int done) {
        int wide = 0;
        int none = 0;
        int total = 0;
        for (int a = 0; a < n; a++) {
            wide += entriesOf(a) > 256 ? 1 : 0;
            if (root[a] == a) {
                int entry = tableOf(a, pair)[0];
                none += entry == NEVER ? 1 : 0;
                total += entry;
            }
        }
        Check.same("done()", wide > 0 ? 3 : none > 0 ? 2 : 1, done);
        Check.same("total()", wide > 0 || none > 0 ? NONE : total, x.call().total());
        if (wide > 0) {
            checkWide();
            return;
        }
        Check.same("tables()", tablesDue, x.call().tables());
        for (int a = 0; a < n; a++) {
            Check.same("parent", parent[a], x.call().parent(a));
            Check.same("separator", separator(a), x.call().separator(a));
            Check.same("entries", entriesOf(a), x.call().entries(a));
            int[] best = bestOf(root[a], pair);
            Check.same("value", best == null ? NONE : best[a], x.call().value(a));
        }
    }

    /** "A table would have more than 256 entries: then the agent is TOO WIDE instead, and makes none." */
    private void checkWide() {
        if (!handOverAll()) {
            return;
        }
        wideToTheEnd++;
        int made = 0;
        for (int a = 0; a < n; a++) {
            boolean makesOne = !isWideBelow(a);
            made += makesOne ? 1 : 0;
            Check.same("parent", parent[a], x.call().parent(a));
            Check.same("separator", separator(a), x.call().separator(a));
            Check.same("entries", makesOne ? entriesOf(a) : NONE, x.call().entries(a));
        }
        Check.same("tables()", made, x.call().tables());
        Check.same("done()", 3, x.call().done());
        Check.same("total()", NONE, x.call().total());
    }

    private boolean isWideBelow(int top) {
        boolean wide = false;
        for (int a = 0; a < n; a++) {
            wide = wide || isBelow(a, top) && entriesOf(a) > 256;
        }
        return wide;
    }

    /** Lets all agents send again what was lost, the lowest first: whether the calls lasted to the last letter. */
    private boolean handOverAll() {
        for (int i = n; i >= 0; i--) {
            letters = i < n ? x.call().again(walked[i]) : letters;
            while (letters > 0 && x.left() > CALLS_AT_THE_END) {
                letters = x.call().letter(0, 0);
            }
            if (x.left() <= CALLS_AT_THE_END) {
                return false;
            }
        }
        return true;
    }

    /** What these agents cost, with their pairs with others. */
    private int costOf(int[] assignment, boolean[] below, int[][][] costs) {
        int sum = 0;
        for (int a = 0; a < n; a++) {
            if (!below[a]) {
                continue;
            }
            int cost = own[a][assignment[a]];
            if (cost == NEVER) {
                return NEVER;
            }
            sum += cost;
            for (int b = 0; b < n; b++) {
                if (costs[a * 8 + b] == null || below[b] && b > a) {
                    continue;
                }
                cost = costs[a * 8 + b][assignment[a]][assignment[b]];
                if (cost == NEVER) {
                    return NEVER;
                }
                sum += cost;
            }
        }
        return sum;
    }

    private boolean[] allBelow(int top) {
        boolean[] below = new boolean[n];
        for (int a = 0; a < n; a++) {
            below[a] = isBelow(a, top);
        }
        return below;
    }

    private static int maskOf(boolean[] agents) {
        int mask = 0;
        for (int a = 0; a < agents.length; a++) {
            mask |= agents[a] ? 1 << a : 0;
        }
        return mask;
    }

    /** For each values of the separator the least cost of all that is at or below the agent. */
    private int[] tableOf(int top, int[][][] costs) {
        int[] table = new int[entriesOf(top)];
        Arrays.fill(table, NEVER);
        int separator = separator(top);
        int[] assignment = new int[n];
        boolean[] below = allBelow(top);
        int free = separator | maskOf(below);
        do {
            int cost = costOf(assignment, below, costs);
            int entry = 0;
            for (int a = n - 1; a >= 0; a--) {
                entry = (separator >> a & 1) == 1 ? entry * values[a] + assignment[a] : entry;
            }
            if (cost != NEVER && (table[entry] == NEVER || cost < table[entry])) {
                table[entry] = cost;
            }
        } while (next(assignment, free));
        return table;
    }

    private boolean next(int[] assignment, int free) {
        for (int i = walkedCount - 1; i >= 0; i--) {
            int a = walked[i];
            if ((free >> a & 1) == 0) {
                continue;
            }
            if (++assignment[a] < values[a]) {
                return true;
            }
            assignment[a] = 0;
        }
        return false;
    }

    /** The first cheapest assignment of a part, in the order in which the token comes to the agents. */
    private int[] bestOf(int top, int[][][] costs) {
        int[] assignment = new int[n];
        int[] best = null;
        int least = NEVER;
        boolean[] below = allBelow(top);
        do {
            int cost = costOf(assignment, below, costs);
            if (cost != NEVER && (least == NEVER || cost < least)) {
                least = cost;
                best = assignment.clone();
            }
        } while (next(assignment, maskOf(below)));
        return best;
    }
}
