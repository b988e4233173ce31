/** "An object is used for at most 512 calls after it has been made": the 512th answers as the first ones do. */
public final class LastCallTest {
    private static final int CALLS = 512;
    /** So many calls make the full state. */
    private static final int MAKING = 15 + 8 + 30 + 30 * 8 + 1 + 1;
    private static final int[][] LAST = {{Calls.ADD_CLASS, 0}, {Calls.ADD_CLASS, 16}, {Calls.SET_LIVE, 15, 0},
        {Calls.CLASS_COUNT}, {Calls.PARENT, 15}, {Calls.IS_BELOW, 15, 7}, {Calls.LIVE_BELOW, 0},
        {Calls.ADD_METHOD, 0, 7, 1}, {Calls.ADD_CALL, 0, 0, 0, 1}, {Calls.METHOD_COUNT}, {Calls.FOUND, 15, 7},
        {Calls.TARGET_COUNT, 0, 0}, {Calls.TARGET, 0, 0, 0}, {Calls.REACHED, 29}, {Calls.SET_LIMITS, 1330, 5, 1},
        {Calls.SET_LIMITS, 1331, 5, 1}, {Calls.PLAN, 0}, {Calls.HAS_PLAN}, {Calls.NODE_COUNT}, {Calls.SIZE},
        {Calls.METHOD, 49}, {Calls.PARENT_NODE, 49}, {Calls.SITE_OF, 49}, {Calls.DEPTH, 49}, {Calls.SITE_COUNT, 49},
        {Calls.VERDICT, 49, 7}, {Calls.WEIGHT, 49, 7}, {Calls.WEIGHT_OF, 0}, {Calls.SHARE}, {Calls.HOLDS, 49},
        {Calls.FIRST_BROKEN}, {Calls.PRUNE}, {Calls.DIGEST}};

    public static void main(String[] args) {
        for (int[] last : LAST) {
            InlinePlanner x = States.full();
            for (int call = MAKING; call < CALLS - 1; call++) {
                use(x, call);
            }
            Check.dueText(Calls.text(last) + " as the last call", Calls.answer(States.full(), last),
                Calls.answer(x, last));
        }
        Check.end();
    }

    /** Calls that leave the full state as it is. */
    private static void use(InlinePlanner x, int call) {
        int[][] calls = {{Calls.PLAN, 29}, {Calls.ADD_CALL, 0, 0, 0, 1}, {Calls.PRUNE}, {Calls.ADD_CLASS, 0},
            {Calls.ADD_METHOD, 0, 7, 1}, {Calls.SET_LIMITS, 0, 0, 0}, {Calls.SET_LIVE, 15, 1}};
        Calls.answer(x, calls[call % calls.length]);
    }
}
