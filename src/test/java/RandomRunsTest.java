import java.util.Arrays;
import java.util.HashMap;
import java.util.Map;
import java.util.Random;

/**
 * Random problems whose letters are lost, doubled and handed over in any order. The tree is found by a plain
 * walk, and every table, choice, value and total by trying out every assignment. Looking at all letters takes more
 * than 512 calls: the document leaves free what is answered then, but this class goes on as before.
 */
public final class RandomRunsTest {
    private static final int NONE = BargainTree.NONE;
    private static final int NEVER = BargainTree.NEVER;
    private static final int PROBLEMS = 1500;
    private static final int MOST_ASSIGNMENTS = 3000;
    private static final int CHANGES = 3;

    private final Random random;
    private final BargainTree x = new BargainTree();
    private final int n;
    private final int[] values;
    private final int[][] own;
    /** By both agents, a * 8 + b; null where there is no pair. */
    private final int[][][] pair = new int[64][][];
    private final int[] parent = new int[8];
    private final int[] root = new int[8];
    private final int[] walked = new int[8];
    private int walkedCount;
    private final int[] run = new int[8];
    /** What was due when it was seen first, by kind, agent and run. */
    private final Map<String, int[]> seen = new HashMap<>();
    private int tablesDue;

    private RandomRunsTest(long seed) {
        random = new Random(seed);
        n = 1 + random.nextInt(8);
        values = new int[n];
        own = new int[n][];
        int assignments = 1;
        for (int a = 0; a < n; a++) {
            values[a] = 2 + random.nextInt(3);
            if (assignments * values[a] << n - a - 1 > MOST_ASSIGNMENTS) {
                values[a] = 2;
            }
            assignments *= values[a];
        }
    }

    public static void main(String[] args) {
        int[] ends = new int[4];
        for (int seed = 0; seed < PROBLEMS; seed++) {
            new RandomRunsTest(seed).play(ends);
        }
        Check.same("some problems have an assignment", 1, ends[1] > 100 ? 1 : 0);
        Check.same("some have none", 1, ends[2] > 100 ? 1 : 0);
        Check.end();
    }

    private void play(int[] ends) {
        makeProblem();
        walkAll();
        int parts = 0;
        for (int a = 0; a < n; a++) {
            parts += root[a] == a ? 1 : 0;
            run[a] = 1;
        }
        tablesDue = n;
        Check.same("start()", parts, x.start());
        handOver();
        ends[x.done()]++;
        for (int i = 0; i < CHANGES && hasPair(); i++) {
            changeOne();
            handOver();
            ends[x.done()]++;
        }
    }

    private int someCost() {
        return random.nextInt(8) == 0 ? NEVER : random.nextInt(6);
    }

    private void makeProblem() {
        for (int a = 0; a < n; a++) {
            x.agent(values[a]);
            own[a] = new int[values[a]];
            for (int v = 0; v < values[a]; v++) {
                own[a][v] = someCost();
                x.own(a, v, own[a][v]);
            }
        }
        int tries = random.nextInt(25);
        int pairs = 0;
        for (int i = 0; i < tries && pairs < 12; i++) {
            int a = random.nextInt(n);
            int b = random.nextInt(n);
            if (a != b && pair[a * 8 + b] == null) {
                pairs++;
                Check.same("pair", pairs, x.pair(a, b));
                makePair(a, b);
            }
        }
    }

    private void makePair(int a, int b) {
        pair[a * 8 + b] = new int[values[a]][values[b]];
        pair[b * 8 + a] = new int[values[b]][values[a]];
        for (int v = 0; v < values[a]; v++) {
            for (int w = 0; w < values[b]; w++) {
                int cost = someCost();
                x.cost(a, b, v, w, cost);
                setCost(a, b, v, w, cost);
            }
        }
    }

    private void setCost(int a, int b, int v, int w, int cost) {
        pair[a * 8 + b][v][w] = cost;
        pair[b * 8 + a][w][v] = cost;
    }

    private boolean hasPair() {
        for (int i = 0; i < 64; i++) {
            if (pair[i] != null) {
                return true;
            }
        }
        return false;
    }

    private int neighbours(int a) {
        int count = 0;
        for (int b = 0; b < n; b++) {
            count += pair[a * 8 + b] != null ? 1 : 0;
        }
        return count;
    }

    /** The agent with the most neighbours of all is a root; so is the next one that was not walked to from it. */
    private void walkAll() {
        boolean[] had = new boolean[8];
        while (true) {
            int best = NONE;
            for (int a = 0; a < n; a++) {
                if (!had[a] && (best == NONE || neighbours(a) > neighbours(best))) {
                    best = a;
                }
            }
            if (best == NONE) {
                return;
            }
            walk(best, NONE, best, had);
        }
    }

    private void walk(int a, int from, int top, boolean[] had) {
        had[a] = true;
        parent[a] = from;
        root[a] = top;
        walked[walkedCount++] = a;
        for (int most = n; most > 0; most--) {
            for (int b = 0; b < n; b++) {
                if (pair[a * 8 + b] != null && !had[b] && neighbours(b) == most) {
                    walk(b, a, top, had);
                }
            }
        }
    }

    private boolean isBelow(int a, int top) {
        int at = a;
        while (at != NONE && at != top) {
            at = parent[at];
        }
        return at == top;
    }

    /** The agents above a that are neighbours of a or of one below it. */
    private int separator(int a) {
        int mask = 0;
        for (int b = 0; b < n; b++) {
            for (int c = 0; c < n; c++) {
                if (isBelow(c, a) && !isBelow(b, a) && pair[c * 8 + b] != null) {
                    mask |= 1 << b;
                }
            }
        }
        return mask;
    }

    private int entriesOf(int a) {
        int count = 1;
        for (int b = 0; b < n; b++) {
            count *= (separator(a) >> b & 1) == 1 ? values[b] : 1;
        }
        return count;
    }

    /** Loses, doubles and delivers until something has come to an end, then checks the end. */
    private void handOver() {
        for (int step = 0; step < 400 && x.done() == 0; step++) {
            int letters = Check.lettersOf(x);
            int what = random.nextInt(12);
            if (letters == 0 || what == 0) {
                x.again(random.nextInt(n));
            } else if (what == 1) {
                Check.same("lost", letters - 1, x.letter(random.nextInt(letters), 1));
            } else if (what == 2 && letters < 20) {
                Check.same("doubled", letters + 1, x.letter(random.nextInt(letters), 2));
            } else {
                x.letter(random.nextInt(letters), 0);
            }
            checkLetters();
        }
        for (int i = 0; i < 40 && x.done() == 0; i++) {
            Check.deliverAll(x);
            for (int a = 0; a < n; a++) {
                x.again(a);
            }
            checkLetters();
        }
        checkEnd();
    }

    private void changeOne() {
        if (x.done() == 3) {
            return;
        }
        int a;
        int b;
        do {
            a = random.nextInt(n);
            b = random.nextInt(n);
        } while (pair[a * 8 + b] == null);
        int v = random.nextInt(values[a]);
        int w = random.nextInt(values[b]);
        int cost = someCost();
        setCost(a, b, v, w, cost);
        run[root[a]]++;
        tablesDue = 0;
        for (int at = isBelow(a, b) ? a : b; at != NONE; at = parent[at]) {
            tablesDue++;
        }
        int before = Check.lettersOf(x);
        Check.same("change", Math.min(20, before + 1), x.change(a, b, v, w, cost));
        checkLetters();
    }

    private void checkLetters() {
        for (int k = 0; x.told(k, 0) != NONE; k++) {
            int from = x.told(k, 1);
            boolean upwards = x.told(k, 0) == 1 || x.told(k, 0) == 2;
            Check.same("along the tree", upwards ? parent[from] : from, upwards ? x.told(k, 2) : parent[x.told(k, 2)]);
            if (x.told(k, 0) == 2) {
                int[] due = seen.computeIfAbsent("table " + from + " " + x.told(k, 3), key -> tableOf(from));
                Check.same("how many entries", due.length, x.told(k, 4));
                Check.content("entries", x, k, due);
            }
            if (x.told(k, 0) == 3) {
                checkChoice(k, from);
            }
        }
    }

    private void checkChoice(int k, int from) {
        int[] best = seen.computeIfAbsent("best " + root[from] + " " + x.told(k, 3), key -> bestOf(root[from]));
        int[] due = new int[8];
        int count = 0;
        for (int a = 0; a < 8; a++) {
            boolean toldOf = a < n && isBelow(from, a);
            due[a] = toldOf ? best[a] : NONE;
            count += toldOf ? 1 : 0;
        }
        Check.same("how many values", count, x.told(k, 4));
        Check.content("values", x, k, due);
    }

    private void checkEnd() {
        int wide = 0;
        int none = 0;
        int total = 0;
        for (int a = 0; a < n; a++) {
            wide += entriesOf(a) > 256 ? 1 : 0;
            if (root[a] == a) {
                int entry = tableOf(a)[0];
                none += entry == NEVER ? 1 : 0;
                total += entry;
            }
        }
        int done = wide > 0 ? 3 : none > 0 ? 2 : 1;
        Check.same("done()", done, x.done());
        if (done == 3) {
            return;
        }
        Check.same("total()", none > 0 ? NONE : total, x.total());
        Check.same("tables()", tablesDue, x.tables());
        for (int a = 0; a < n; a++) {
            Check.same("parent", parent[a], x.parent(a));
            Check.same("separator", separator(a), x.separator(a));
            Check.same("entries", entriesOf(a), x.entries(a));
            int[] best = bestOf(root[a]);
            Check.same("value", best == null ? NONE : best[a], x.value(a));
        }
    }

    private int costOf(int[] assignment, int top) {
        int sum = 0;
        for (int a = 0; a < n; a++) {
            if (!isBelow(a, top)) {
                continue;
            }
            int cost = own[a][assignment[a]];
            if (cost == NEVER) {
                return NEVER;
            }
            sum += cost;
            for (int b = 0; b < n; b++) {
                if (pair[a * 8 + b] == null || isBelow(b, top) && b > a) {
                    continue;
                }
                cost = pair[a * 8 + b][assignment[a]][assignment[b]];
                if (cost == NEVER) {
                    return NEVER;
                }
                sum += cost;
            }
        }
        return sum;
    }

    /** For each values of the separator the least cost of all that is at or below the agent. */
    private int[] tableOf(int top) {
        int[] table = new int[entriesOf(top)];
        Arrays.fill(table, NEVER);
        int separator = separator(top);
        int[] assignment = new int[n];
        int free = separator;
        for (int a = 0; a < n; a++) {
            free |= isBelow(a, top) ? 1 << a : 0;
        }
        do {
            int cost = costOf(assignment, top);
            int entry = 0;
            for (int a = n - 1; a >= 0; a--) {
                entry = (separator >> a & 1) == 1 ? entry * values[a] + assignment[a] : entry;
            }
            if (cost != NEVER && (table[entry] == NEVER || cost < table[entry])) {
                table[entry] = cost;
            }
        } while (next(assignment, free));
        return table;
    }

    private boolean next(int[] assignment, int free) {
        for (int i = walkedCount - 1; i >= 0; i--) {
            int a = walked[i];
            if ((free >> a & 1) == 0) {
                continue;
            }
            if (++assignment[a] < values[a]) {
                return true;
            }
            assignment[a] = 0;
        }
        return false;
    }

    /** The first cheapest assignment of a part, in the order in which the token comes to the agents. */
    private int[] bestOf(int top) {
        int[] assignment = new int[n];
        int[] best = null;
        int least = NEVER;
        int free = 0;
        for (int a = 0; a < n; a++) {
            free |= root[a] == top ? 1 << a : 0;
        }
        do {
            int cost = costOf(assignment, top);
            if (cost != NEVER && (least == NEVER || cost < least)) {
                least = cost;
                best = assignment.clone();
            }
        } while (next(assignment, free));
        return best;
    }
}
