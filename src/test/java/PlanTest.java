/** Promises 15 to 28: limits, plans, verdicts and weights. */
public final class PlanTest {
    private static final Class<IndexOutOfBoundsException> INDEX = IndexOutOfBoundsException.class;
    private static final Class<IllegalStateException> STATE = IllegalStateException.class;
    private static final int INLINED = 0;
    private static final int NONE = 1;
    private static final int SEVERAL = 2;
    private static final int DEEP = 3;
    private static final int RECURSIVE = 4;
    private static final int DEAR = 5;
    private static final int FULL = 6;

    public static void main(String[] args) {
        setsLimits();
        wrongLimits();
        simplePlan();
        firstLimits();
        earlyVerdicts();
        orderOfEarlyVerdicts();
        depthBounds();
        recursionBounds();
        recursionCountsOnlyAncestors();
        budgetBounds();
        dearLeavesRoomForSmaller();
        fiftyNodes();
        dearBeforeFull();
        weightBound();
        greatestMeritFirst();
        equalMerits();
        meritIsRoundedDown();
        newCandidatesAreAmongThem();
        plansAreKeptAndRemoved();
        anotherPlan();
        weightsOfVerdicts();
        shares();
        withoutPlan();
        wrongNodesAndSites();
        Check.end();
    }

    private static void setsLimits() {
        InlinePlanner x = new InlinePlanner();
        Check.due("setLimits(200, 4, 1), as at first", false, x.setLimits(200, 4, 1));
        Check.due("setLimits(201, 4, 1)", true, x.setLimits(201, 4, 1));
        Check.due("setLimits(201, 5, 1)", true, x.setLimits(201, 5, 1));
        Check.due("setLimits(201, 5, 2)", true, x.setLimits(201, 5, 2));
        Check.due("setLimits(201, 5, 2)", false, x.setLimits(201, 5, 2));
        Check.due("setLimits(1, 0, 0)", true, x.setLimits(1, 0, 0));
        Check.due("setLimits(5000, 10, 5)", true, x.setLimits(5000, 10, 5));
        Check.due("setLimits(5000, 10, 5)", false, x.setLimits(5000, 10, 5));
        Check.due("digest()", Check.digestOf(1, -1, 0, 0, 5000, 10, 5), x.digest());
    }

    private static void wrongLimits() {
        InlinePlanner x = States.flat(1);
        x.setLimits(7, 3, 2);
        x.plan(0);
        int[][] wrong = {{0, 4, 1}, {5001, 4, 1}, {200, -1, 1}, {200, 11, 1}, {200, 4, -1}, {200, 4, 6},
            {Integer.MIN_VALUE, 4, 1}, {Integer.MAX_VALUE, 4, 1}, {200, Integer.MIN_VALUE, 1},
            {200, Integer.MAX_VALUE, 1}, {200, 4, Integer.MIN_VALUE}, {200, 4, Integer.MAX_VALUE}};
        for (int[] w : wrong) {
            Check.dueThrow(x, "setLimits(" + w[0] + ", " + w[1] + ", " + w[2] + ")", IllegalArgumentException.class,
                () -> x.setLimits(w[0], w[1], w[2]) ? 1 : 0);
        }
        Check.due("hasPlan() behind limits that threw", true, x.hasPlan());
        Check.due("setLimits(7, 3, 2), as before", false, x.setLimits(7, 3, 2));
    }

    private static void simplePlan() {
        InlinePlanner x = States.flat(10, 5, 7);
        x.addCall(0, 0, 1, 3);
        x.addCall(0, 0, 2, 4);
        x.addCall(1, 0, 2, 2);
        Check.due("hasPlan()", false, x.hasPlan());
        Check.due("plan(0)", 4, x.plan(0));
        Check.due("hasPlan()", true, x.hasPlan());
        Check.due("nodeCount()", 4, x.nodeCount());
        Check.due("size()", 10 + 5 + 7 + 7, x.size());
        // The merits: 3000 / 5 = 600 for method 1, 4000 / 7 = 571, then 6000 / 7 = 857 for the site in node 1.
        Check.dueNode(x, 0, 0, -1, -1, 0);
        Check.dueNode(x, 1, 1, 0, 0, 1);
        Check.dueNode(x, 2, 2, 1, 0, 2);
        Check.dueNode(x, 3, 2, 0, 1, 1);
        int[] sites = {2, 1, 0, 0};
        for (int node = 0; node < 4; node++) {
            Check.due("siteCount(" + node + ")", sites[node], x.siteCount(node));
        }
        Check.due("weight(0, 0)", 3, x.weight(0, 0));
        Check.due("weight(0, 1)", 4, x.weight(0, 1));
        Check.due("weight(1, 0)", 6, x.weight(1, 0));
        Check.due("verdict(0, 0)", INLINED, x.verdict(0, 0));
        Check.due("verdict(0, 1)", INLINED, x.verdict(0, 1));
        Check.due("verdict(1, 0)", INLINED, x.verdict(1, 0));
        Check.due("plan(2), no sites", 1, x.plan(2));
        Check.due("size()", 7, x.size());
    }

    private static void firstLimits() {
        InlinePlanner x = States.flat(100, 100, 1);
        x.addCall(0, 0, 1, 20);
        x.addCall(1, 0, 2, 1);
        Check.due("plan(0), budget 200 at first", 2, x.plan(0));
        Check.due("size()", 200, x.size());
        Check.due("verdict(1, 0)", DEAR, x.verdict(1, 0));
        InlinePlanner y = States.flat(1, 1, 1, 1, 1, 1);
        for (int m = 0; m < 5; m++) {
            y.addCall(m, 0, m + 1, 1);
        }
        Check.due("plan(0), depth 4 at first", 5, y.plan(0));
        Check.due("verdict(4, 0)", DEEP, y.verdict(4, 0));
        InlinePlanner z = States.flat(1);
        z.addCall(0, 0, 0, 1);
        Check.due("plan(0), recursion 1 at first", 2, z.plan(0));
        Check.due("verdict(1, 0)", RECURSIVE, z.verdict(1, 0));
    }

    /** Method 0 calls: nothing found, nothing live, two targets, itself, one target. */
    private static InlinePlanner mixed() {
        InlinePlanner x = States.flat(10, 20, 30);
        x.addClass(0);
        x.addClass(0);
        x.setLive(1, true);
        x.addMethod(1, 1, 5);
        x.addCall(0, 0, 7, 1);
        x.addCall(0, 2, 1, 2);
        x.addCall(0, 0, 1, 3);
        x.addCall(0, 0, 0, 4);
        x.addCall(0, 0, 2, 5);
        return x;
    }

    private static void earlyVerdicts() {
        InlinePlanner x = mixed();
        x.setLimits(200, 4, 0);
        Check.due("plan(0)", 2, x.plan(0));
        Check.dueVerdicts(x, 0, NONE, NONE, SEVERAL, RECURSIVE, INLINED);
        for (int site = 0; site < 5; site++) {
            Check.due("weight(0, " + site + ")", site + 1, x.weight(0, site));
        }
    }

    private static void orderOfEarlyVerdicts() {
        InlinePlanner x = mixed();
        x.setLimits(1, 0, 0);
        Check.due("plan(0)", 1, x.plan(0));
        Check.dueVerdicts(x, 0, NONE, NONE, SEVERAL, DEEP, DEEP);
        x.setLimits(1, 1, 0);
        x.plan(0);
        Check.dueVerdicts(x, 0, NONE, NONE, SEVERAL, RECURSIVE, DEAR);
    }

    private static void depthBounds() {
        InlinePlanner x = new InlinePlanner();
        x.addClass(0);
        x.addClass(0);
        x.setLive(1, true);
        x.setLive(2, true);
        for (int m = 0; m < 12; m++) {
            x.addMethod(1 + m / 8, m % 8, 1);
        }
        for (int m = 0; m < 11; m++) {
            x.addCall(m, 1 + (m + 1) / 8, (m + 1) % 8, 1);
        }
        for (int depth = 0; depth <= 10; depth++) {
            x.setLimits(5000, depth, 0);
            Check.due("plan(0) with depth " + depth, depth + 1, x.plan(0));
            Check.due("depth()", depth, x.depth(depth));
            Check.due("verdict()", DEEP, x.verdict(depth, 0));
        }
    }

    private static void recursionBounds() {
        InlinePlanner x = States.flat(1);
        x.addCall(0, 0, 0, 2);
        for (int recursion = 0; recursion <= 5; recursion++) {
            x.setLimits(5000, 10, recursion);
            Check.due("plan(0) with recursion " + recursion, recursion + 1, x.plan(0));
            Check.due("verdict()", RECURSIVE, x.verdict(recursion, 0));
            Check.due("weight()", 2 << recursion, x.weight(recursion, 0));
        }
    }

    private static void recursionCountsOnlyAncestors() {
        InlinePlanner x = States.flat(1, 1, 1);
        x.addCall(0, 0, 1, 1);
        x.addCall(0, 0, 1, 1);
        x.addCall(0, 0, 2, 1);
        x.addCall(2, 0, 1, 1);
        x.addCall(1, 0, 2, 1);
        x.setLimits(5000, 10, 0);
        // Copies of method 1 in other branches do not count; that of the own branch does.
        Check.due("plan(0)", 7, x.plan(0));
        Check.due("weightOf(4)", 3, x.weightOf(RECURSIVE));
        Check.due("weightOf(0)", 6, x.weightOf(INLINED));
    }

    private static void budgetBounds() {
        InlinePlanner x = States.flat(10, 5);
        x.addCall(0, 0, 1, 1);
        x.setLimits(15, 4, 1);
        Check.due("plan(0), just within the budget", 2, x.plan(0));
        x.setLimits(14, 4, 1);
        Check.due("plan(0), just beyond the budget", 1, x.plan(0));
        Check.dueVerdicts(x, 0, DEAR);
        x.setLimits(1, 4, 1);
        Check.due("plan(0), larger than the budget by itself", 1, x.plan(0));
        Check.due("size()", 10, x.size());
        Check.dueVerdicts(x, 0, DEAR);
    }

    private static void dearLeavesRoomForSmaller() {
        InlinePlanner x = States.flat(10, 50, 5);
        x.addCall(0, 0, 1, 20);
        x.addCall(0, 0, 2, 1);
        x.setLimits(15, 4, 1);
        Check.due("plan(0)", 2, x.plan(0));
        Check.dueVerdicts(x, 0, DEAR, INLINED);
        Check.dueNode(x, 1, 2, 0, 1, 1);
    }

    /** Each of 0 and 1 calls the next one eight times. */
    private static InlinePlanner eightTimesEight() {
        InlinePlanner x = States.flat(1, 1, 1);
        for (int site = 0; site < 8; site++) {
            x.addCall(0, 0, 1, 1);
            x.addCall(1, 0, 2, 1);
        }
        return x;
    }

    private static void fiftyNodes() {
        InlinePlanner x = eightTimesEight();
        x.setLimits(5000, 10, 5);
        Check.due("plan(0)", 50, x.plan(0));
        Check.due("nodeCount()", 50, x.nodeCount());
        Check.due("size()", 50, x.size());
        Check.due("weightOf(6)", 72 - 49, x.weightOf(FULL));
        Check.due("weightOf(0)", 49, x.weightOf(INLINED));
        Check.dueNode(x, 8, 1, 0, 7, 1);
        Check.dueNode(x, 9, 2, 1, 0, 2);
        Check.dueNode(x, 49, 2, 6, 0, 2);
        Check.dueVerdicts(x, 6, INLINED, FULL, FULL, FULL, FULL, FULL, FULL, FULL);
        Check.dueThrow(x, "method(50)", INDEX, () -> x.method(50));
        Check.due("plan(1), a smaller one again", 9, x.plan(1));
    }

    private static void dearBeforeFull() {
        InlinePlanner x = eightTimesEight();
        x.setLimits(50, 10, 5);
        Check.due("plan(0)", 50, x.plan(0));
        Check.dueVerdicts(x, 8, DEAR, DEAR, DEAR, DEAR, DEAR, DEAR, DEAR, DEAR);
        x.setLimits(51, 10, 5);
        Check.due("plan(0)", 50, x.plan(0));
        Check.dueVerdicts(x, 8, FULL, FULL, FULL, FULL, FULL, FULL, FULL, FULL);
        x.setLimits(49, 10, 5);
        Check.due("plan(0)", 49, x.plan(0));
        Check.due("weightOf(5)", 24, x.weightOf(DEAR));
    }

    private static void weightBound() {
        InlinePlanner x = States.flat(1, 1, 1, 1, 1, 1, 1, 1);
        int[] frequencies = {20, 20, 20, 5, 5, 5, 1};
        for (int m = 0; m < 7; m++) {
            x.addCall(m, 0, m + 1, frequencies[m]);
        }
        x.addCall(5, 0, 7, 6);
        x.addCall(6, 0, 7, 20);
        x.setLimits(5000, 10, 5);
        Check.due("plan(0)", 10, x.plan(0));
        int[] want = {20, 400, 8000, 40000, 200000, 1000000, 1000000};
        for (int node = 0; node < 6; node++) {
            Check.due("weight(" + node + ", 0)", want[node], x.weight(node, 0));
        }
        Check.due("weight(5, 1), 1200000 without the bound", 1000000, x.weight(5, 1));
        Check.dueNode(x, 6, 6, 5, 0, 6);
        Check.dueNode(x, 7, 7, 5, 1, 6);
        Check.due("weight(6, 0)", 1000000, x.weight(6, 0));
        Check.due("weight(6, 1)", 1000000, x.weight(6, 1));
        Check.due("weightOf(0)", 248420 + 4000000, x.weightOf(INLINED));
    }

    private static void greatestMeritFirst() {
        InlinePlanner x = States.flat(1, 10, 10, 4);
        x.addCall(0, 0, 1, 1);
        x.addCall(0, 0, 2, 2);
        x.addCall(0, 0, 3, 1);
        Check.due("plan(0)", 4, x.plan(0));
        Check.dueNode(x, 1, 3, 0, 2, 1);
        Check.dueNode(x, 2, 2, 0, 1, 1);
        Check.dueNode(x, 3, 1, 0, 0, 1);
    }

    private static void equalMerits() {
        InlinePlanner x = States.flat(1, 10, 10, 10);
        x.addCall(0, 0, 1, 1);
        x.addCall(0, 0, 2, 1);
        x.addCall(1, 0, 3, 1);
        x.addCall(1, 0, 2, 1);
        Check.due("plan(0)", 5, x.plan(0));
        Check.dueNode(x, 1, 1, 0, 0, 1);
        Check.dueNode(x, 2, 2, 0, 1, 1);
        Check.dueNode(x, 3, 3, 1, 0, 2);
        Check.dueNode(x, 4, 2, 1, 1, 2);
    }

    private static void meritIsRoundedDown() {
        // 1000 / 70 and 1000 / 67 are both 14, rounded down; rounded to the nearest they were 14 and 15.
        InlinePlanner x = States.flat(1, 70, 67);
        x.addCall(0, 0, 1, 1);
        x.addCall(0, 0, 2, 1);
        x.plan(0);
        Check.dueNode(x, 1, 1, 0, 0, 1);
        Check.dueNode(x, 2, 2, 0, 1, 1);
        // 1000 / 72 is 13: without the factor 1000 both were 0.
        InlinePlanner y = States.flat(1, 72, 67);
        y.addCall(0, 0, 1, 1);
        y.addCall(0, 0, 2, 1);
        y.plan(0);
        Check.dueNode(y, 1, 2, 0, 1, 1);
        // Both are 10, but with 999 or 1001 in place of 1000 the second one were greater.
        InlinePlanner z = States.flat(1, 100, 91);
        z.addCall(0, 0, 1, 1);
        z.addCall(0, 0, 2, 1);
        z.plan(0);
        Check.dueNode(z, 1, 1, 0, 0, 1);
    }

    private static void newCandidatesAreAmongThem() {
        InlinePlanner x = States.flat(1, 10, 20, 10);
        x.addCall(0, 0, 1, 2);
        x.addCall(0, 0, 2, 2);
        x.addCall(1, 0, 3, 1);
        x.setLimits(21, 4, 1);
        Check.due("plan(0)", 3, x.plan(0));
        Check.dueNode(x, 1, 1, 0, 0, 1);
        Check.dueNode(x, 2, 3, 1, 0, 2);
        Check.dueVerdicts(x, 0, INLINED, DEAR);
    }

    private static void plansAreKeptAndRemoved() {
        InlinePlanner x = mixed();
        x.setLimits(200, 4, 0);
        x.plan(0);
        long before = x.weightOf(SEVERAL);
        x.setLive(1, false);
        x.setLive(2, true);
        x.addClass(0);
        x.addMethod(2, 7, 1);
        Check.due("hasPlan() behind changes of classes and methods", true, x.hasPlan());
        Check.dueVerdicts(x, 0, NONE, NONE, SEVERAL, RECURSIVE, INLINED);
        Check.due("weightOf(2)", before, x.weightOf(SEVERAL));
        Check.dueThrow(x, "plan(5)", INDEX, () -> x.plan(5));
        Check.due("hasPlan() behind plan that threw", true, x.hasPlan());
        x.addCall(1, 0, 0, 1);
        Check.due("hasPlan() behind addCall", false, x.hasPlan());
        x.plan(0);
        Check.dueVerdicts(x, 0, INLINED, INLINED, INLINED, RECURSIVE, INLINED);
        Check.due("setLimits(200, 4, 0), as before", false, x.setLimits(200, 4, 0));
        Check.due("hasPlan() behind setLimits", false, x.hasPlan());
        Check.dueThrow(x, "nodeCount() without a plan", STATE, () -> x.nodeCount());
    }

    private static void anotherPlan() {
        InlinePlanner x = States.flat(1, 2, 3);
        x.addCall(0, 0, 1, 2);
        x.addCall(0, 0, 2, 2);
        x.addCall(1, 0, 2, 9);
        Check.due("plan(0)", 4, x.plan(0));
        Check.due("plan(1)", 2, x.plan(1));
        Check.due("nodeCount()", 2, x.nodeCount());
        Check.due("size()", 5, x.size());
        Check.dueNode(x, 0, 1, -1, -1, 0);
        Check.dueNode(x, 1, 2, 0, 0, 1);
        Check.due("weight(0, 0), the node's weight is 1", 9, x.weight(0, 0));
        Check.dueThrow(x, "method(2)", INDEX, () -> x.method(2));
        Check.dueThrow(x, "verdict(0, 1)", INDEX, () -> x.verdict(0, 1));
        for (int bad : new int[] {-1, 3, 30, Integer.MIN_VALUE, Integer.MAX_VALUE}) {
            Check.dueThrow(x, "plan(" + bad + ")", INDEX, () -> x.plan(bad));
        }
    }

    private static void weightsOfVerdicts() {
        InlinePlanner x = mixed();
        x.setLimits(39, 4, 0);
        x.plan(0);
        long[] want = {0, 1 + 2, 3, 0, 4, 5, 0, 0};
        for (int verdict = 0; verdict < 8; verdict++) {
            Check.due("weightOf(" + verdict + ")", want[verdict], x.weightOf(verdict));
        }
        for (int bad : new int[] {-1, 8, Integer.MIN_VALUE, Integer.MAX_VALUE}) {
            Check.dueThrow(x, "weightOf(" + bad + ")", INDEX, () -> x.weightOf(bad));
        }
    }

    private static void shares() {
        InlinePlanner x = States.flat(1, 1);
        x.plan(0);
        Check.dueDouble("share() without sites", 1.0, x.share());
        x.addCall(0, 0, 1, 1);
        x.plan(0);
        Check.dueDouble("share(), all", 1.0, x.share());
        x.addCall(0, 0, 7, 2);
        x.plan(0);
        Check.dueDouble("share(), one third", 1.0 / 3.0, x.share());
        x.addCall(0, 0, 7, 4);
        x.plan(0);
        Check.dueDouble("share(), one seventh", 1.0 / 7.0, x.share());
        x.setLimits(1, 4, 1);
        x.plan(0);
        Check.dueDouble("share(), nothing", 0.0, x.share());
    }

    private static void withoutPlan() {
        InlinePlanner x = States.flat(1);
        for (int node : new int[] {0, -1, 50, Integer.MIN_VALUE, Integer.MAX_VALUE}) {
            String in = "(" + node + ") without a plan";
            Check.dueThrow(x, "method" + in, STATE, () -> x.method(node));
            Check.dueThrow(x, "parentNode" + in, STATE, () -> x.parentNode(node));
            Check.dueThrow(x, "siteOf" + in, STATE, () -> x.siteOf(node));
            Check.dueThrow(x, "depth" + in, STATE, () -> x.depth(node));
            Check.dueThrow(x, "siteCount" + in, STATE, () -> x.siteCount(node));
            Check.dueThrow(x, "verdict" + in, STATE, () -> x.verdict(node, -1));
            Check.dueThrow(x, "weight" + in, STATE, () -> x.weight(node, 8));
            Check.dueThrow(x, "weightOf" + in, STATE, () -> x.weightOf(node));
        }
        Check.dueThrow(x, "nodeCount()", STATE, () -> x.nodeCount());
        Check.dueThrow(x, "size()", STATE, () -> x.size());
        Check.dueThrow(x, "share()", STATE, () -> (long) x.share());
    }

    private static void wrongNodesAndSites() {
        InlinePlanner x = States.flat(1, 1);
        x.addCall(0, 0, 1, 1);
        x.addCall(0, 0, 1, 1);
        x.plan(0);
        for (int node : new int[] {-1, 3, 50, Integer.MIN_VALUE, Integer.MAX_VALUE}) {
            Check.dueThrow(x, "method(" + node + ")", INDEX, () -> x.method(node));
            Check.dueThrow(x, "parentNode(" + node + ")", INDEX, () -> x.parentNode(node));
            Check.dueThrow(x, "siteOf(" + node + ")", INDEX, () -> x.siteOf(node));
            Check.dueThrow(x, "depth(" + node + ")", INDEX, () -> x.depth(node));
            Check.dueThrow(x, "siteCount(" + node + ")", INDEX, () -> x.siteCount(node));
            Check.dueThrow(x, "verdict(" + node + ", 0)", INDEX, () -> x.verdict(node, 0));
            Check.dueThrow(x, "weight(" + node + ", 0)", INDEX, () -> x.weight(node, 0));
        }
        for (int site : new int[] {-1, 2, 8, Integer.MIN_VALUE, Integer.MAX_VALUE}) {
            Check.dueThrow(x, "verdict(0, " + site + ")", INDEX, () -> x.verdict(0, site));
            Check.dueThrow(x, "weight(0, " + site + ")", INDEX, () -> x.weight(0, site));
        }
        Check.dueThrow(x, "verdict(1, 0)", INDEX, () -> x.verdict(1, 0));
        Check.dueThrow(x, "weight(1, 0)", INDEX, () -> x.weight(1, 0));
    }
}
