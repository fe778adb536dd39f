/** What the tests share: comparing answers, exceptions that are due, and handing letters over. */
final class Check {
    static final Class<? extends RuntimeException> ARGUMENT = IllegalArgumentException.class;
    static final Class<? extends RuntimeException> STATE = IllegalStateException.class;
    static final Class<? extends RuntimeException> INDEX = IndexOutOfBoundsException.class;

    private static int checks = 0;
    private static int wrong = 0;

    private Check() {
    }

    static void same(String what, long due, long got) {
        checks++;
        if (got != due) {
            wrong++;
            System.out.println(what + " answered " + got + ", due is " + due);
        }
    }

    static void thrown(String what, Class<? extends RuntimeException> due, Runnable call) {
        checks++;
        Class<?> got = null;
        try {
            call.run();
        } catch (RuntimeException e) {
            got = e.getClass();
        }
        if (got != due) {
            wrong++;
            System.out.println(what + " threw " + got + ", due is " + due);
        }
    }

    /** Letter k is of this kind, from and to these agents, and has this mask or run. */
    static void letter(String what, BargainTree x, int k, int... due) {
        for (int i = 0; i < due.length; i++) {
            same(what + ", told(" + k + ", " + i + ")", due[i], x.told(k, i));
        }
    }

    /** Letter k has these entries, or values by agents. */
    static void content(String what, BargainTree x, int k, int... due) {
        for (int i = 0; i < due.length; i++) {
            same(what + ", told(" + k + ", " + (10 + i) + ")", due[i], x.told(k, 10 + i));
        }
        same(what + ", told behind the last one", BargainTree.NONE, x.told(k, 10 + due.length));
    }

    static int lettersOf(BargainTree x) {
        int count = 0;
        while (x.told(count, 0) != BargainTree.NONE) {
            count++;
        }
        return count;
    }

    /** Delivers the first letter until there is none. */
    static void deliverAll(BargainTree x) {
        for (int i = 0; i < 500 && x.told(0, 0) != BargainTree.NONE; i++) {
            x.letter(0, 0);
        }
    }

    static BargainTree problem(int... values) {
        BargainTree x = new BargainTree();
        for (int v : values) {
            x.agent(v);
        }
        return x;
    }

    /** Pairs written like "0-1 1-2". */
    static void join(BargainTree x, String pairs) {
        for (String p : pairs.split(" ")) {
            x.pair(p.charAt(0) - '0', p.charAt(2) - '0');
        }
    }

    static void end() {
        System.out.println(checks + " checks, " + wrong + " wrong");
        if (wrong != 0) {
            System.exit(1);
        }
    }
}
