/** Promises 29 to 32: assumptions, what is pruned when they do not hold any more, and the checksum. */
public final class ChangeTest {
    private static final Class<IndexOutOfBoundsException> INDEX = IndexOutOfBoundsException.class;
    private static final Class<IllegalStateException> STATE = IllegalStateException.class;
    private static final int INLINED = 0;
    private static final int NONE = 1;
    private static final int BROKEN = 7;

    public static void main(String[] args) {
        everythingHolds();
        brokenBySecondTarget();
        brokenByAnotherTarget();
        brokenByNoTarget();
        holdsAgain();
        ownAssumptionAlone();
        prunesTheMiddle();
        prunesBrokenBelowBroken();
        prunesAllButNodeZero();
        prunesAgain();
        prunesFiftyNodes();
        withoutPlan();
        digestOfClasses();
        digestOfPlans();
        Check.end();
    }

    /**
     * Classes 1 and 2 are live and below 0. Methods 0 to 3 belong to class 1 and have the selectors 0 to 3,
     * methods 4 and 5 belong to class 2 and have the selectors 0 and 1. The plan for 0 has the nodes
     * 0: method 0; 1: method 1 at (0, 0); 2: method 2 at (1, 0); 3: method 3 at (2, 0); 4: method 4 at (0, 1);
     * 5: method 5 at (4, 0).
     */
    private static InlinePlanner planned() {
        InlinePlanner x = new InlinePlanner();
        x.addClass(0);
        x.addClass(0);
        x.setLive(1, true);
        x.setLive(2, true);
        for (int m = 0; m < 6; m++) {
            x.addMethod(1 + m / 4, m % 4, 1 + m);
        }
        x.addCall(0, 1, 1, 20);
        x.addCall(0, 2, 0, 20);
        x.addCall(1, 1, 2, 1);
        x.addCall(4, 2, 1, 2);
        x.addCall(4, 0, 7, 3);
        x.addCall(2, 1, 3, 1);
        Check.due("plan(0)", 6, x.plan(0));
        // Merits: 20000 / 2, 20000 / 5; then 20000 / 3 behind node 1, 20000 / 4 behind that; 40000 / 6 behind 4.
        for (int node = 0; node < 6; node++) {
            Check.due("method(" + node + ")", node, x.method(node));
        }
        return x;
    }

    private static void everythingHolds() {
        InlinePlanner x = planned();
        for (int node = 0; node < 6; node++) {
            Check.due("holds(" + node + ")", true, x.holds(node));
        }
        Check.due("firstBroken()", -1, x.firstBroken());
        long before = x.digest();
        Check.due("prune()", 0, x.prune());
        Check.due("digest() behind prune", before, x.digest());
        Check.due("size()", 21, x.size());
        x.addClass(1);
        Check.due("firstBroken(), a class that is not live", -1, x.firstBroken());
        x.setLive(3, true);
        Check.due("firstBroken(), a live class without methods", -1, x.firstBroken());
        for (int bad : new int[] {-1, 6, 50, Integer.MIN_VALUE, Integer.MAX_VALUE}) {
            Check.dueThrow(x, "holds(" + bad + ")", INDEX, () -> x.holds(bad) ? 1 : 0);
        }
    }

    private static void brokenBySecondTarget() {
        InlinePlanner x = planned();
        x.addClass(1);
        x.addMethod(3, 2, 9);
        Check.due("holds(2), the class is not live", true, x.holds(2));
        x.setLive(3, true);
        Check.due("holds(2)", false, x.holds(2));
        Check.due("firstBroken()", 2, x.firstBroken());
        Check.due("verdict(1, 0), as before", INLINED, x.verdict(1, 0));
        Check.due("nodeCount(), as before", 6, x.nodeCount());
    }

    private static void brokenByAnotherTarget() {
        InlinePlanner x = planned();
        x.addClass(2);
        x.addMethod(3, 1, 9);
        x.setLive(3, true);
        x.setLive(2, false);
        Check.due("targetCount(2, 1)", 1, x.targetCount(2, 1));
        Check.due("target(2, 1, 0)", 6, x.target(2, 1, 0));
        Check.due("holds(5), another only target", false, x.holds(5));
        Check.due("holds(4), found for the class below", true, x.holds(4));
        Check.due("firstBroken()", 5, x.firstBroken());
    }

    private static void brokenByNoTarget() {
        InlinePlanner x = planned();
        x.setLive(2, false);
        boolean[] want = {true, true, true, true, false, false};
        for (int node = 0; node < 6; node++) {
            Check.due("holds(" + node + ")", want[node], x.holds(node));
        }
        Check.due("firstBroken()", 4, x.firstBroken());
        x.setLive(1, false);
        Check.due("holds(0), always", true, x.holds(0));
        Check.due("firstBroken()", 1, x.firstBroken());
    }

    private static void holdsAgain() {
        InlinePlanner x = planned();
        x.setLive(1, false);
        Check.due("holds(1)", false, x.holds(1));
        x.setLive(1, true);
        Check.due("holds(1), live again", true, x.holds(1));
        Check.due("firstBroken()", -1, x.firstBroken());
        Check.due("prune()", 0, x.prune());
    }

    private static void ownAssumptionAlone() {
        InlinePlanner x = planned();
        x.addClass(1);
        x.addMethod(3, 1, 9);
        x.setLive(3, true);
        Check.due("holds(1)", false, x.holds(1));
        Check.due("holds(2), though its parent does not hold", true, x.holds(2));
        Check.due("holds(3), though an ancestor does not hold", true, x.holds(3));
        Check.due("firstBroken()", 1, x.firstBroken());
    }

    private static void prunesTheMiddle() {
        InlinePlanner x = planned();
        x.addClass(1);
        x.addMethod(3, 1, 9);
        x.setLive(3, true);
        Check.due("prune()", 3, x.prune());
        Check.due("nodeCount()", 3, x.nodeCount());
        Check.due("size()", 1 + 5 + 6, x.size());
        int[] methods = {0, 4, 5};
        for (int node = 0; node < 3; node++) {
            Check.due("method(" + node + ")", methods[node], x.method(node));
            Check.due("parentNode(" + node + ")", node - 1, x.parentNode(node));
            Check.due("depth(" + node + ")", node, x.depth(node));
        }
        Check.due("siteOf(1)", 1, x.siteOf(1));
        Check.due("siteOf(2)", 0, x.siteOf(2));
        Check.due("verdict(0, 0)", BROKEN, x.verdict(0, 0));
        Check.due("verdict(0, 1)", INLINED, x.verdict(0, 1));
        Check.due("verdict(1, 0)", INLINED, x.verdict(1, 0));
        Check.due("weight(0, 0), as before", 20, x.weight(0, 0));
        Check.due("weight(1, 0), moved", 40, x.weight(1, 0));
        Check.due("weight(1, 1), moved", 60, x.weight(1, 1));
        Check.due("verdict(1, 1), moved", NONE, x.verdict(1, 1));
        Check.due("siteCount(1)", 2, x.siteCount(1));
        Check.due("weightOf(7)", 20, x.weightOf(BROKEN));
        Check.due("weightOf(0)", 60, x.weightOf(INLINED));
        Check.dueDouble("share()", 3.0 / 7.0, x.share());
        Check.due("firstBroken()", -1, x.firstBroken());
        Check.dueThrow(x, "method(3)", INDEX, () -> x.method(3));
        Check.dueThrow(x, "holds(3)", INDEX, () -> x.holds(3) ? 1 : 0);
        Check.due("digest()", Check.digestOf(4, -1, 0, 0, 1, 0, 1, 1, 1, 7, 200, 4, 1,
            3, 0, -1, 7, 20, 0, 20, 4, 0, 0, 40, 1, 60, 5, 1), x.digest());
    }

    private static void prunesBrokenBelowBroken() {
        InlinePlanner x = planned();
        x.addClass(1);
        x.addMethod(3, 2, 9);
        x.addMethod(3, 3, 9);
        x.setLive(3, true);
        Check.due("holds(2)", false, x.holds(2));
        Check.due("holds(3)", false, x.holds(3));
        Check.due("prune(), each node once", 2, x.prune());
        Check.due("verdict(1, 0)", BROKEN, x.verdict(1, 0));
        Check.due("weightOf(7)", 20, x.weightOf(BROKEN));
        Check.due("method(2)", 4, x.method(2));
        Check.due("parentNode(2)", 0, x.parentNode(2));
        Check.due("parentNode(3)", 2, x.parentNode(3));
        Check.due("siteOf(2)", 1, x.siteOf(2));
        Check.due("depth(2)", 1, x.depth(2));
        Check.due("depth(3)", 2, x.depth(3));
        Check.due("verdict(2, 1), moved", NONE, x.verdict(2, 1));
        Check.due("weight(2, 0), moved", 40, x.weight(2, 0));
    }

    private static void prunesAllButNodeZero() {
        InlinePlanner x = planned();
        x.setLive(1, false);
        x.setLive(2, false);
        Check.due("prune()", 5, x.prune());
        Check.due("hasPlan()", true, x.hasPlan());
        Check.due("nodeCount()", 1, x.nodeCount());
        Check.due("size()", 1, x.size());
        Check.due("weightOf(7)", 40, x.weightOf(BROKEN));
        Check.dueDouble("share()", 0.0, x.share());
        Check.due("prune()", 0, x.prune());
    }

    private static void prunesAgain() {
        InlinePlanner x = planned();
        x.setLive(2, false);
        Check.due("prune()", 2, x.prune());
        x.setLive(2, true);
        Check.due("verdict(0, 1), broken for good", BROKEN, x.verdict(0, 1));
        x.addClass(1);
        x.setLive(3, true);
        x.addMethod(3, 3, 9);
        Check.due("firstBroken()", 3, x.firstBroken());
        Check.due("prune()", 1, x.prune());
        Check.due("verdict(2, 0)", BROKEN, x.verdict(2, 0));
        Check.due("weightOf(7)", 40, x.weightOf(BROKEN));
        Check.due("plan(0), made anew", 5, x.plan(0));
        Check.due("weightOf(7)", 0, x.weightOf(BROKEN));
    }

    private static void prunesFiftyNodes() {
        InlinePlanner x = new InlinePlanner();
        x.setLive(0, true);
        x.addMethod(0, 0, 1);
        x.addMethod(0, 1, 2);
        x.addMethod(0, 2, 3);
        for (int site = 0; site < 8; site++) {
            x.addCall(0, 0, 1, 1);
            x.addCall(1, 0, 2, 1);
        }
        x.setLimits(5000, 10, 5);
        Check.due("plan(0)", 50, x.plan(0));
        x.setLive(x.addClass(0), true);
        x.addMethod(1, 2, 1);
        Check.due("firstBroken()", 9, x.firstBroken());
        Check.due("prune()", 41, x.prune());
        Check.due("nodeCount()", 9, x.nodeCount());
        Check.due("size()", 17, x.size());
        Check.due("weightOf(7), the full ones stay full", 41, x.weightOf(BROKEN));
        Check.due("weightOf(6)", 64 - 41, x.weightOf(6));
    }

    private static void withoutPlan() {
        InlinePlanner x = new InlinePlanner();
        Check.dueThrow(x, "holds(0)", STATE, () -> x.holds(0) ? 1 : 0);
        Check.dueThrow(x, "holds(-1)", STATE, () -> x.holds(-1) ? 1 : 0);
        Check.dueThrow(x, "firstBroken()", STATE, () -> x.firstBroken());
        Check.dueThrow(x, "prune()", STATE, () -> x.prune());
        InlinePlanner y = planned();
        y.addCall(5, 0, 0, 1);
        Check.dueThrow(y, "holds(0)", STATE, () -> y.holds(0) ? 1 : 0);
        Check.dueThrow(y, "firstBroken()", STATE, () -> y.firstBroken());
        Check.dueThrow(y, "prune()", STATE, () -> y.prune());
    }

    private static void digestOfClasses() {
        InlinePlanner x = new InlinePlanner();
        Check.due("digest()", Check.digestOf(1, -1, 0, 0, 200, 4, 1), x.digest());
        x.addClass(0);
        x.addClass(1);
        x.setLive(2, true);
        x.addMethod(2, 0, 17);
        x.setLimits(300, 5, 2);
        Check.due("digest()", Check.digestOf(3, -1, 0, 0, 0, 1, 1, 1, 300, 5, 2), x.digest());
        long before = x.digest();
        x.addCall(0, 2, 0, 3);
        Check.due("digest(), which tells no sites", before, x.digest());
    }

    private static void digestOfPlans() {
        InlinePlanner x = planned();
        long[] numbers = {3, -1, 0, 0, 1, 0, 1, 6, 200, 4, 1, 6, 0, -1, 0, 20, 0, 20, 1, 0, 0, 20, 2, 1, 0, 20,
            3, 2, 4, 0, 0, 40, 1, 60, 5, 4};
        Check.due("digest()", Check.digestOf(numbers), x.digest());
        x.setLimits(200, 4, 1);
        Check.due("digest(), the plan is removed", Check.digestOf(3, -1, 0, 0, 1, 0, 1, 6, 200, 4, 1), x.digest());
        x.plan(5);
        Check.due("digest()", Check.digestOf(3, -1, 0, 0, 1, 0, 1, 6, 200, 4, 1, 1, 5, -1), x.digest());
    }
}
