import java.util.Arrays;

/** What the tests share: comparing answers, exceptions that are due, wrong arguments, and handing letters over. */
final class Check {
    static final Class<? extends RuntimeException> ARGUMENT = IllegalArgumentException.class;
    static final Class<? extends RuntimeException> STATE = IllegalStateException.class;
    static final Class<? extends RuntimeException> INDEX = IndexOutOfBoundsException.class;

    static final int LEAST = Integer.MIN_VALUE;
    static final int GREATEST = Integer.MAX_VALUE;

    /** No costs, on both sides of 0 .. 999 and of NEVER. */
    static final int[] NO_COSTS = {LEAST, LEAST + 1, -65536, -1000, -999, -4, -3, -1, 1000, 1001, 65536,
        GREATEST - 1, GREATEST};

    /** More letters than there can be: a loop over them ends, whatever is told. */
    private static final int TOO_MANY_LETTERS = 25;
    private static final long MOST_MILLISECONDS = 300_000;

    private static int checks = 0;
    private static int wrong = 0;

    static {
        Thread watch = new Thread(Check::failIfItDoesNotEnd);
        watch.setDaemon(true);
        watch.start();
    }

    private Check() {
    }

    private static void failIfItDoesNotEnd() {
        try {
            Thread.sleep(MOST_MILLISECONDS);
        } catch (InterruptedException e) {
            return;
        }
        System.out.println("the test does not end");
        Runtime.getRuntime().halt(1);
    }

    static void same(String what, long due, long got) {
        checks++;
        if (got != due) {
            wrong++;
            System.out.println(what + " answered " + got + ", due is " + due);
        }
    }

    static void same(String what, String due, String got) {
        checks++;
        if (!got.equals(due)) {
            wrong++;
            System.out.println(what + ": seen is " + got + ", due is " + due);
        }
    }

    static void thrown(String what, Class<? extends RuntimeException> due, Runnable call) {
        checks++;
        Class<?> got = null;
        try {
            call.run();
        } catch (RuntimeException e) {
            got = e.getClass();
        }
        if (got != due) {
            wrong++;
            System.out.println(what + " threw " + got + ", due is " + due);
        }
    }

    /**
     * Ints that are not low .. high, both small: those beside it, those that would be in it if some of their bits
     * were left out, the least and the greatest.
     */
    static int[] outside(int low, int high) {
        int[] some = {LEAST, LEAST + 1, LEAST + low, LEAST + high, -65536, -256, -32, -16, -8, low - 2, low - 1,
            high + 1, high + 2, 8, 16, 32, 32 + high, 64, 256 + low, 256 + high, 65536 + low, 1 << 30,
            GREATEST - 1, GREATEST};
        return Arrays.stream(some).filter(i -> i < low || i > high).distinct().toArray();
    }

    /** Letter k is of this kind, from and to these agents, and has this mask or run, and so many entries or values. */
    static void letter(String what, BargainTree x, int k, int... due) {
        for (int i = 0; i < due.length; i++) {
            same(what + ", told(" + k + ", " + i + ")", due[i], x.told(k, i));
        }
    }

    /** Letter k has these entries, or values by agents. */
    static void content(String what, BargainTree x, int k, int... due) {
        for (int i = 0; i < due.length; i++) {
            same(what + ", told(" + k + ", " + (10 + i) + ")", due[i], x.told(k, 10 + i));
        }
        same(what + ", told behind the last one", BargainTree.NONE, x.told(k, 10 + due.length));
    }

    /** All that can be seen of an object, with so many agents; the document leaves free what is seen after 512 calls. */
    static String look(BargainTree x, int agents) {
        StringBuilder all = new StringBuilder();
        all.append(x.done()).append(' ').append(x.total()).append(' ').append(x.tables());
        for (int a = 0; a < agents; a++) {
            all.append(" | ").append(x.value(a)).append(' ').append(x.parent(a)).append(' ');
            all.append(x.separator(a)).append(' ').append(x.entries(a));
        }
        int kind = x.told(0, 0);
        for (int k = 0; kind != BargainTree.NONE && k < TOO_MANY_LETTERS; k++) {
            all.append(" / ").append(kind);
            int count = kind == 3 ? 8 : x.told(k, 4);
            for (int what = 1; what < 10 + count; what = what == 4 ? 10 : what + 1) {
                all.append(' ').append(x.told(k, what));
            }
            kind = x.told(k + 1, 0);
        }
        return all.toString();
    }

    static int lettersOf(BargainTree x) {
        int count = 0;
        while (count < TOO_MANY_LETTERS && x.told(count, 0) != BargainTree.NONE) {
            count++;
        }
        return count;
    }

    /** Delivers the first letter until there is none. */
    static void deliverAll(BargainTree x) {
        for (int i = 0; i < 200 && x.told(0, 0) != BargainTree.NONE; i++) {
            x.letter(0, 0);
        }
    }

    /** Doubles letter k until so many are under way, if there are so many now. */
    static void fill(BargainTree x, int k, int now, int then) {
        for (int n = now + 1; n <= then; n++) {
            same("7: doubled", n, x.letter(k, 2));
        }
    }

    static BargainTree problem(int... values) {
        BargainTree x = new BargainTree();
        for (int v : values) {
            x.agent(v);
        }
        return x;
    }

    /** Pairs written like "0-1 1-2". */
    static void join(BargainTree x, String pairs) {
        for (String p : pairs.split(" ")) {
            x.pair(p.charAt(0) - '0', p.charAt(2) - '0');
        }
    }

    /** So many agents with two values each, joined by these pairs, and started. */
    static BargainTree started(int agents, String pairs) {
        int[] values = new int[agents];
        Arrays.fill(values, 2);
        BargainTree x = problem(values);
        join(x, pairs);
        x.start();
        return x;
    }

    /** As started, and all letters are delivered. */
    static BargainTree settled(int agents, String pairs) {
        BargainTree x = started(agents, pairs);
        deliverAll(x);
        same("11: all are settled", 1, x.done());
        return x;
    }

    /** A cost for each two values of two agents that have two each. */
    static void costAll(BargainTree x, int a, int b, int cost) {
        for (int v = 0; v < 4; v++) {
            x.cost(a, b, v / 2, v % 2, cost);
        }
    }

    static void end() {
        System.out.println(checks + " checks, " + wrong + " wrong");
        if (wrong != 0) {
            System.exit(1);
        }
    }
}
