/** An object whose calls are counted: the document leaves free what it answers after the 512th. */
final class Counted {
    static final int MOST_CALLS = 512;

    private final BargainTree x = new BargainTree();
    private int calls;

    int left() {
        return MOST_CALLS - calls;
    }

    /** The object, for one more call. */
    BargainTree call() {
        if (calls == MOST_CALLS) {
            throw new AssertionError("a test makes more than 512 calls");
        }
        calls++;
        return x;
    }
}
