/** Promise 15, sentence by sentence, at the last values that are allowed and the first that are not. */
public final class LimitBoundsTest {
    private static final Class<IllegalArgumentException> ARGUMENT = IllegalArgumentException.class;
    private static final int[] FIRST = {200, 4, 1};
    private static final int[] LEAST = {1, 0, 0};
    private static final int[] GREATEST = {5000, 10, 5};

    public static void main(String[] args) {
        leastAndGreatest();
        firstNotAllowed();
        nothingOfRefusedLimits();
        anotherThanBefore();
        removesThePlan();
        keepsThePlan();
        Check.end();
    }

    private static boolean set(InlinePlanner x, int[] limits) {
        return x.setLimits(limits[0], limits[1], limits[2]);
    }

    private static void dueLimits(InlinePlanner x, int[] limits) {
        Check.due("digest()", Check.digestOf(1, -1, 0, 0, limits[0], limits[1], limits[2]), x.digest());
    }

    /** "The budget, 1 to 5000, the depth, 0 to 10, and the recursion, 0 to 5." */
    private static void leastAndGreatest() {
        for (int which = 0; which < 3; which++) {
            for (int[] end : new int[][] {LEAST, GREATEST}) {
                InlinePlanner x = new InlinePlanner();
                int[] limits = FIRST.clone();
                limits[which] = end[which];
                Check.due("setLimits() with an end at " + which, true, set(x, limits));
                dueLimits(x, limits);
            }
        }
        InlinePlanner x = new InlinePlanner();
        Check.due("setLimits(1, 0, 0)", true, set(x, LEAST));
        dueLimits(x, LEAST);
        Check.due("setLimits(5000, 10, 5)", true, set(x, GREATEST));
        dueLimits(x, GREATEST);
    }

    private static void firstNotAllowed() {
        for (int which = 0; which < 3; which++) {
            for (int bad : new int[] {LEAST[which] - 1, GREATEST[which] + 1, Integer.MIN_VALUE, Integer.MAX_VALUE}) {
                InlinePlanner x = new InlinePlanner();
                int[] limits = FIRST.clone();
                limits[which] = bad;
                Check.dueThrow(x, "setLimits() with " + bad + " at " + which, ARGUMENT, () -> set(x, limits) ? 1 : 0);
                dueLimits(x, FIRST);
            }
        }
    }

    /** The good ones of limits that are refused are not taken either. */
    private static void nothingOfRefusedLimits() {
        for (int which = 0; which < 3; which++) {
            for (int[] end : new int[][] {LEAST, GREATEST}) {
                InlinePlanner x = new InlinePlanner();
                int[] limits = end.clone();
                limits[which] += end == LEAST ? -1 : 1;
                Check.dueThrow(x, "setLimits() with a bad one at " + which, ARGUMENT, () -> set(x, limits) ? 1 : 0);
                Check.due("setLimits(200, 4, 1), as before", false, set(x, FIRST));
            }
        }
    }

    /** "Returns whether one of them is another one than before." */
    private static void anotherThanBefore() {
        for (int which = 0; which < 3; which++) {
            for (int step : new int[] {-1, 1}) {
                InlinePlanner x = new InlinePlanner();
                int[] limits = FIRST.clone();
                limits[which] += step;
                Check.due("setLimits(200, 4, 1), none", false, set(x, FIRST));
                Check.due("setLimits() with another at " + which, true, set(x, limits));
                Check.due("setLimits() with the same", false, set(x, limits));
                Check.due("setLimits(200, 4, 1) again", true, set(x, FIRST));
            }
        }
    }

    /** The plan "is removed by each call of setLimits that throws no exception", also if none is another one. */
    private static void removesThePlan() {
        InlinePlanner x = States.smallest();
        Check.due("setLimits(200, 4, 1)", false, set(x, FIRST));
        Check.due("hasPlan()", false, x.hasPlan());
        x.plan(0);
        Check.due("setLimits(5000, 10, 5)", true, set(x, GREATEST));
        Check.due("hasPlan()", false, x.hasPlan());
        Check.due("setLimits(5000, 10, 5) without a plan", false, set(x, GREATEST));
        Check.due("hasPlan()", false, x.hasPlan());
    }

    private static void keepsThePlan() {
        InlinePlanner x = States.smallest();
        int[][] wrong = {{0, 4, 1}, {5001, 4, 1}, {200, -1, 1}, {200, 11, 1}, {200, 4, -1}, {200, 4, 6}};
        for (int[] limits : wrong) {
            Check.dueThrow(x, Calls.text(Calls.SET_LIMITS, limits[0], limits[1], limits[2]), ARGUMENT,
                () -> set(x, limits) ? 1 : 0);
            Check.due("hasPlan()", true, x.hasPlan());
        }
    }
}
