import java.util.Random;
import java.util.function.ToIntFunction;

/**
 * Random calls with right and wrong arguments in right and wrong states. Each is refused exactly when the document
 * says so; a twin that is spared the refused calls answers the same in all others, so that they changed nothing.
 */
public final class RefusedCallsTest {
    private static final int NONE = BargainTree.NONE;
    private static final int NEVER = BargainTree.NEVER;
    private static final int PROBLEMS = 3000;
    private static final int LOOKS = 150;
    private static final int[] FAR = {Check.LEAST, Check.LEAST + 1, -65536, -256, -32, -8, -4, -3, -2, -1, 4, 8, 16, 20,
        32, 64, 256, 1000, 65536, Check.GREATEST - 1, Check.GREATEST};

    private static int refused = 0;
    private static int done = 0;
    private static int changes = 0;

    private final Random random;
    private final Counted x = new Counted();
    private final Counted twin = new Counted();
    private final int[] values = new int[8];
    private final boolean[] joined = new boolean[64];
    private int agents;
    private int pairs;
    private int letters;
    private boolean open = true;

    private RefusedCallsTest(long seed) {
        random = new Random(seed);
    }

    public static void main(String[] args) {
        for (int seed = 0; seed < PROBLEMS; seed++) {
            new RefusedCallsTest(seed).play();
        }
        Check.same("many calls were refused", 1, refused > 20 * PROBLEMS ? 1 : 0);
        Check.same("many problems came to an end", 1, done > PROBLEMS / 2 ? 1 : 0);
        Check.same("many costs were changed", 1, changes > PROBLEMS / 2 ? 1 : 0);
        Check.end();
    }

    private void play() {
        int opening = 5 + random.nextInt(40);
        for (int i = 0; x.left() > LOOKS + 2; i++) {
            if (open && i >= opening) {
                start();
            } else if (open || random.nextInt(5) == 0) {
                anyCall();
            } else {
                handOver();
            }
        }
        compare();
    }

    private void handOver() {
        if (letters > 0) {
            letter(random.nextInt(letters), random.nextInt(20) == 0 ? 1 : 0);
        } else if (random.nextInt(3) == 0) {
            again(random.nextInt(agents));
        } else {
            change();
        }
    }

    private void anyCall() {
        switch (random.nextInt(open ? 12 : 9)) {
            case 0 -> start();
            case 1 -> again(agent());
            case 2 -> change();
            case 3 -> letter(some(letters, 25), some(3, 3));
            case 4 -> letter(some(letters, 25), 2);
            case 5, 9 -> addAgent();
            case 6, 10 -> own();
            case 7, 11 -> pair();
            default -> cost();
        }
    }

    /** Mostly 0 .. count - 1, else a number beside it, or far off. */
    private int some(int count, int most) {
        int way = random.nextInt(8);
        if (way == 0) {
            return FAR[random.nextInt(FAR.length)];
        }
        return way == 1 || count == 0 ? random.nextInt(most + 1) : random.nextInt(count);
    }

    private int agent() {
        return some(agents, 9);
    }

    private int value(int a) {
        return some(isAgent(a) ? values[a] : 2, 4);
    }

    private int someCost() {
        switch (random.nextInt(6)) {
            case 0:
                return NEVER;
            case 1:
                return FAR[random.nextInt(FAR.length)];
            default:
                return random.nextInt(1000);
        }
    }

    private boolean isAgent(int a) {
        return a >= 0 && a < agents;
    }

    private boolean isValue(int a, int value) {
        return isAgent(a) && value >= 0 && value < values[a];
    }

    private static boolean isCost(int cost) {
        return cost == NEVER || cost >= 0 && cost <= 999;
    }

    private boolean isPair(int a, int b) {
        return isAgent(a) && isAgent(b) && joined[a * 8 + b];
    }

    private static Class<? extends RuntimeException> first(boolean argument, boolean state) {
        if (argument) {
            return Check.ARGUMENT;
        }
        return state ? Check.STATE : null;
    }

    /** The call is made on both if it is not due to be refused: its answer then, or NONE. */
    private int answer(String what, Class<? extends RuntimeException> due, ToIntFunction<BargainTree> call) {
        if (due != null) {
            refused++;
            Check.thrown(what, due, () -> call.applyAsInt(x.call()));
            return NONE;
        }
        int answer = call.applyAsInt(x.call());
        Check.same(what + " as its twin", call.applyAsInt(twin.call()), answer);
        return answer;
    }

    private void addAgent() {
        int so = random.nextInt(3) == 0 ? FAR[random.nextInt(FAR.length)] : 1 + random.nextInt(5);
        Class<? extends RuntimeException> due = first(so < 2 || so > 4, !open || agents == 8);
        int number = answer("2: agent(" + so + ")", due, y -> y.agent(so));
        if (due == null) {
            Check.same("2: agent(" + so + ")", agents, number);
            values[agents++] = so;
        }
    }

    private void own() {
        int a = agent();
        int value = value(a);
        int cost = someCost();
        answer("3: own(" + a + ", " + value + ", " + cost + ")", first(!isValue(a, value) || !isCost(cost), !open), y -> {
            y.own(a, value, cost);
            return 0;
        });
    }

    private void pair() {
        int a = agent();
        int b = agent();
        boolean two = isAgent(a) && isAgent(b) && a != b;
        Class<? extends RuntimeException> due = first(!two, !open || isPair(a, b) || pairs == 12);
        int count = answer("4: pair(" + a + ", " + b + ")", due, y -> y.pair(a, b));
        if (due == null) {
            pairs++;
            Check.same("4: pair(" + a + ", " + b + ")", pairs, count);
            joined[a * 8 + b] = true;
            joined[b * 8 + a] = true;
        }
    }

    private void cost() {
        int a = agent();
        int b = agent();
        int v = value(a);
        int w = value(b);
        int cost = someCost();
        boolean right = isPair(a, b) && isValue(a, v) && isValue(b, w) && isCost(cost);
        answer("5: cost(" + a + ", " + b + ", " + v + ", " + w + ", " + cost + ")", first(!right, !open), y -> {
            y.cost(a, b, v, w, cost);
            return 0;
        });
    }

    private void start() {
        Class<? extends RuntimeException> due = first(false, !open || agents == 0);
        int parts = answer("6: start()", due, BargainTree::start);
        if (due == null) {
            open = false;
            Check.same("6: parts", 1, parts >= 1 && parts <= agents ? 1 : 0);
            while (letters < 20 && x.call().told(letters, 0) != NONE) {
                letters++;
            }
        } else if (agents == 0) {
            addAgent();
        }
    }

    private void letter(int k, int action) {
        boolean none = k < 0 || k >= letters;
        Class<? extends RuntimeException> due = first(action < 0 || action > 2, action == 2 && letters == 20);
        due = due != Check.ARGUMENT && none ? Check.INDEX : due;
        int count = answer("7: letter(" + k + ", " + action + ")", due, y -> y.letter(k, action));
        letters = due == null ? count : letters;
    }

    private void again(int a) {
        Class<? extends RuntimeException> due = first(!isAgent(a), open);
        int count = answer("9: again(" + a + ")", due, y -> y.again(a));
        letters = due == null ? count : letters;
    }

    private void change() {
        int a = agent();
        int b = agent();
        for (int tries = 0; tries < 20 && !isPair(a, b); tries++) {
            b = agent();
        }
        int other = b;
        int v = value(a);
        int w = value(b);
        int cost = someCost();
        boolean right = isPair(a, b) && isValue(a, v) && isValue(b, w) && isCost(cost);
        int state = right ? x.call().done() : 0;
        Class<? extends RuntimeException> due = first(!right, state != 1 && state != 2);
        String what = "10: change(" + a + ", " + b + ", " + v + ", " + w + ", " + cost + ")";
        int count = answer(what, due, y -> y.change(a, other, v, w, cost));
        if (due == null) {
            changes++;
            Check.same(what, Math.min(20, letters + 1), count);
            letters = count;
        }
    }

    /** All answers, as far as the calls last. */
    private void compare() {
        answer("13: total()", null, BargainTree::total);
        answer("17: tables()", null, BargainTree::tables);
        int state = answer("11: done()", null, BargainTree::done);
        done += state == 1 || state == 2 ? 1 : 0;
        Check.same("11: open", 0, open ? state : 0);
        for (int i = 0; i < agents; i++) {
            int a = i;
            answer("12: value(" + a + ")", null, y -> y.value(a));
            answer("14: parent(" + a + ")", null, y -> y.parent(a));
            answer("15: separator(" + a + ")", null, y -> y.separator(a));
            answer("16: entries(" + a + ")", null, y -> y.entries(a));
        }
        for (int i = 0; i <= letters && x.left() > 20; i++) {
            int k = i;
            for (int j = 0; j < 18; j = j == 4 ? 10 : j + 1) {
                int what = j;
                answer("8: told(" + k + ", " + what + ")", null, y -> y.told(k, what));
            }
        }
    }
}
