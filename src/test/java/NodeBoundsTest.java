import java.math.BigDecimal;
import java.math.RoundingMode;
import java.util.function.Consumer;

/** Promises 17 to 28, sentence by sentence, at the last values that are allowed and the first that are not. */
public final class NodeBoundsTest {
    private static final Class<IndexOutOfBoundsException> INDEX = IndexOutOfBoundsException.class;
    private static final Class<IllegalStateException> STATE = IllegalStateException.class;
    private static final int[] OF_PLAN = {Calls.NODE_COUNT, Calls.SIZE, Calls.SHARE};
    private static final int[] OF_NODE = {Calls.METHOD, Calls.PARENT_NODE, Calls.SITE_OF, Calls.DEPTH,
        Calls.SITE_COUNT};
    private static final int[] OF_SITE = {Calls.VERDICT, Calls.WEIGHT};
    private static final int INLINED = 0;
    private static final int NONE = 1;
    private static final int SEVERAL = 2;
    private static final int DEEP = 3;
    private static final int RECURSIVE = 4;
    private static final int DEAR = 5;
    private static final int FULL = 6;
    private static final int BROKEN = 7;

    public static void main(String[] args) {
        tellsWhetherThereIsPlan();
        noPlanAtFirst();
        noPlanBehind("addCall", x -> x.addCall(0, 0, 0, 1));
        noPlanBehind("setLimits", x -> x.setLimits(200, 4, 1));
        oneNodeOrFifty();
        smallestAndLargestSize();
        firstAndLastMethod();
        parentOfNodes();
        siteOfNodes();
        firstAndLastDepth();
        noSitesOrEight();
        nodesOfSmallestPlan();
        nodesOfLargestPlan();
        sitesOfNodeWithoutAny();
        sitesOfNodeWithOne();
        sitesOfNodeWithEight();
        sitesOfOtherNodes();
        everyVerdict();
        leastAndGreatestWeight();
        firstAndLastVerdict();
        weightOfNothing();
        greatestSums();
        shareWithoutSites();
        shareOfNothing();
        shareOfAll();
        shareIsRounded();
        Check.end();
    }

    private static void dueAnswer(InlinePlanner x, String want, int... call) {
        Check.dueText(Calls.text(call), want, Calls.answer(x, call));
    }

    private static void dueRefused(InlinePlanner x, Class<? extends RuntimeException> want, int... call) {
        long before = x.digest();
        dueAnswer(x, want.getName(), call);
        Check.due("digest() behind " + Calls.text(call), before, x.digest());
    }

    /** A plan with 50 nodes: method 0, 8 copies of method 1 and 41 of method 2. */
    private static InlinePlanner fifty() {
        InlinePlanner x = States.row(3, 1);
        for (int site = 0; site < 8; site++) {
            States.call(x, 0, 1, 1);
            States.call(x, 1, 2, 1);
        }
        x.plan(0);
        return x;
    }

    // Promise 17, and "Throws IllegalStateException if there is no plan".

    private static void tellsWhetherThereIsPlan() {
        InlinePlanner x = new InlinePlanner();
        Check.due("hasPlan() of a new object", false, x.hasPlan());
        x.addMethod(0, 0, 1);
        Check.due("hasPlan() with a method", false, x.hasPlan());
        x.plan(0);
        Check.due("hasPlan() behind plan", true, x.hasPlan());
        x.prune();
        Check.due("hasPlan() behind prune", true, x.hasPlan());
        x.setLimits(200, 4, 1);
        Check.due("hasPlan() behind setLimits", false, x.hasPlan());
        x.plan(0);
        Check.due("hasPlan() behind plan", true, x.hasPlan());
        x.addCall(0, 0, 0, 1);
        Check.due("hasPlan() behind addCall", false, x.hasPlan());
    }

    private static void noPlanAtFirst() {
        dueNoPlan(new InlinePlanner());
        dueNoPlan(States.flat(1));
    }

    private static void noPlanBehind(String call, Consumer<InlinePlanner> remove) {
        InlinePlanner x = States.flat(1);
        x.plan(0);
        remove.accept(x);
        Check.due("hasPlan() behind " + call, false, x.hasPlan());
        dueNoPlan(x);
    }

    /** The exception for the plan comes first, whatever the node, the site or the verdict is. */
    private static void dueNoPlan(InlinePlanner x) {
        for (int promise : OF_PLAN) {
            dueRefused(x, STATE, promise);
        }
        for (int number : new int[] {0, -1, 50}) {
            for (int promise : OF_NODE) {
                dueRefused(x, STATE, promise, number);
            }
            for (int promise : OF_SITE) {
                dueRefused(x, STATE, promise, number, 0);
                dueRefused(x, STATE, promise, number, -1);
            }
            dueRefused(x, STATE, Calls.WEIGHT_OF, number);
        }
    }

    // Promises 18 to 24.

    private static void oneNodeOrFifty() {
        InlinePlanner x = fifty();
        Check.due("nodeCount()", 50, x.nodeCount());
        Check.due("plan(2)", 1, x.plan(2));
        Check.due("nodeCount()", 1, x.nodeCount());
    }

    private static void smallestAndLargestSize() {
        InlinePlanner x = States.row(3, 100);
        x.addMethod(0, 0, 1);
        for (int site = 0; site < 7; site++) {
            States.call(x, 0, 1, 1);
            States.call(x, 1, 2, 1);
        }
        x.setLimits(5000, 10, 5);
        x.plan(3);
        Check.due("size()", 1, x.size());
        x.plan(2);
        Check.due("size()", 100, x.size());
        x.plan(0);
        Check.due("size(), the greatest one", 5000, x.size());
    }

    private static void firstAndLastMethod() {
        InlinePlanner x = States.row(30, 1);
        States.call(x, 29, 0, 1);
        x.plan(29);
        Check.due("method(0)", 29, x.method(0));
        Check.due("method(1)", 0, x.method(1));
    }

    /** "Returns its parent; -1 for node 0." */
    private static void parentOfNodes() {
        InlinePlanner x = fifty();
        Check.due("parentNode(0)", -1, x.parentNode(0));
        for (int node = 1; node < 50; node++) {
            Check.due("parentNode(" + node + ")", node < 9 ? 0 : 1 + (node - 9) / 8, x.parentNode(node));
        }
        // The parent is the node just before it.
        InlinePlanner y = States.flat(1);
        y.addCall(0, 0, 0, 1);
        y.setLimits(200, 10, 5);
        Check.due("plan(0)", 6, y.plan(0));
        Check.due("parentNode(5)", 4, y.parentNode(5));
    }

    /** "The number of the site of its parent for which it was made; -1 for node 0." */
    private static void siteOfNodes() {
        InlinePlanner x = fifty();
        Check.due("siteOf(0)", -1, x.siteOf(0));
        for (int node = 1; node < 50; node++) {
            Check.due("siteOf(" + node + ")", (node - 1) % 8, x.siteOf(node));
        }
    }

    private static void firstAndLastDepth() {
        InlinePlanner x = States.row(12, 1);
        for (int m = 0; m < 11; m++) {
            States.call(x, m, m + 1, 1);
        }
        x.setLimits(5000, 10, 0);
        Check.due("plan(0)", 11, x.plan(0));
        Check.due("depth(0)", 0, x.depth(0));
        Check.due("depth(10)", 10, x.depth(10));
    }

    private static void noSitesOrEight() {
        InlinePlanner x = fifty();
        Check.due("siteCount(0)", 8, x.siteCount(0));
        Check.due("siteCount(8)", 8, x.siteCount(8));
        Check.due("siteCount(9)", 0, x.siteCount(9));
        Check.due("siteCount(49)", 0, x.siteCount(49));
    }

    // "Throws IndexOutOfBoundsException if there is no such node."

    private static void nodesOfSmallestPlan() {
        InlinePlanner x = States.smallest();
        String[] want = {"0.0", "-1.0", "-1.0", "0.0", "0.0"};
        for (int k = 0; k < OF_NODE.length; k++) {
            dueAnswer(x, want[k], OF_NODE[k], 0);
            dueRefused(x, INDEX, OF_NODE[k], 1);
            dueRefused(x, INDEX, OF_NODE[k], -1);
        }
    }

    private static void nodesOfLargestPlan() {
        InlinePlanner x = fifty();
        String[] want = {"2.0", "6.0", "0.0", "2.0", "0.0"};
        for (int k = 0; k < OF_NODE.length; k++) {
            dueAnswer(x, want[k], OF_NODE[k], 49);
            dueRefused(x, INDEX, OF_NODE[k], 50);
            dueRefused(x, INDEX, OF_NODE[k], -1);
        }
        for (int promise : OF_SITE) {
            dueRefused(x, INDEX, promise, 50, 0);
            dueRefused(x, INDEX, promise, -1, 0);
        }
    }

    // Promises 25 and 26. "Throws IndexOutOfBoundsException if there is no such node or site."

    private static void sitesOfNodeWithoutAny() {
        InlinePlanner x = States.smallest();
        for (int promise : OF_SITE) {
            dueRefused(x, INDEX, promise, 0, 0);
            dueRefused(x, INDEX, promise, 0, -1);
        }
    }

    private static void sitesOfNodeWithOne() {
        InlinePlanner x = States.flat(1);
        x.addCall(0, 0, 7, 1);
        x.plan(0);
        for (int promise : OF_SITE) {
            dueAnswer(x, "1.0", promise, 0, 0);
            dueRefused(x, INDEX, promise, 0, 1);
            dueRefused(x, INDEX, promise, 0, -1);
        }
    }

    private static void sitesOfNodeWithEight() {
        InlinePlanner x = fifty();
        dueAnswer(x, "0.0", Calls.VERDICT, 0, 7);
        dueAnswer(x, "1.0", Calls.WEIGHT, 0, 7);
        dueAnswer(x, "6.0", Calls.VERDICT, 8, 7);
        dueAnswer(x, "1.0", Calls.WEIGHT, 8, 7);
        for (int promise : OF_SITE) {
            dueRefused(x, INDEX, promise, 0, 8);
            dueRefused(x, INDEX, promise, 8, 8);
            dueRefused(x, INDEX, promise, 0, -1);
            dueRefused(x, INDEX, promise, 1, -1);
            dueRefused(x, INDEX, promise, 0, Integer.MAX_VALUE);
            dueRefused(x, INDEX, promise, 0, Integer.MIN_VALUE);
        }
    }

    /** A node has no more sites than its own method, though others, and a plan before, had more. */
    private static void sitesOfOtherNodes() {
        InlinePlanner x = fifty();
        for (int promise : OF_SITE) {
            dueRefused(x, INDEX, promise, 9, 0);
        }
        x.plan(2);
        for (int promise : OF_SITE) {
            dueRefused(x, INDEX, promise, 0, 0);
        }
    }

    /** "Returns its verdict, 0 to 6 (7 behind prune)." */
    private static void everyVerdict() {
        InlinePlanner x = States.flat(1, 1, 1, 1, 1, 1);
        x.addClass(0);
        x.addMethod(1, 2, 1);
        x.setLive(1, true);
        x.addCall(0, 0, 1, 20);
        x.addCall(0, 0, 7, 1);
        x.addCall(0, 0, 2, 1);
        x.addCall(0, 0, 0, 1);
        x.addCall(1, 0, 3, 1);
        x.setLimits(2, 1, 0);
        x.plan(0);
        Check.dueVerdicts(x, 0, INLINED, NONE, SEVERAL, RECURSIVE);
        Check.dueVerdicts(x, 1, DEEP);
        x.setLimits(1, 1, 0);
        x.plan(0);
        Check.due("verdict(0, 0)", DEAR, x.verdict(0, 0));
        Check.due("verdict(8, 7)", FULL, fifty().verdict(8, 7));
        x.setLimits(2, 1, 0);
        x.plan(0);
        x.addMethod(1, 1, 1);
        Check.due("verdict(0, 0) before prune", INLINED, x.verdict(0, 0));
        x.prune();
        Check.dueVerdicts(x, 0, BROKEN, NONE, SEVERAL, RECURSIVE);
    }

    private static void leastAndGreatestWeight() {
        InlinePlanner x = greatest();
        x.addCall(0, 0, 7, 1);
        x.plan(0);
        Check.due("weight(0, 0)", 20, x.weight(0, 0));
        Check.due("weight(0, 1)", 1, x.weight(0, 1));
        Check.due("weight(4, 0)", 1000000, x.weight(4, 0));
        Check.due("weight(49, 7)", 1000000, x.weight(49, 7));
    }

    // Promise 27. "Throws IndexOutOfBoundsException if verdict is not 0 to 7."

    private static void firstAndLastVerdict() {
        InlinePlanner x = fifty();
        dueAnswer(x, "49.0", Calls.WEIGHT_OF, 0);
        dueAnswer(x, "23.0", Calls.WEIGHT_OF, 6);
        dueAnswer(x, "0.0", Calls.WEIGHT_OF, 7);
        for (int bad : new int[] {-1, 8, Integer.MIN_VALUE, Integer.MAX_VALUE}) {
            dueRefused(x, INDEX, Calls.WEIGHT_OF, bad);
        }
    }

    private static void weightOfNothing() {
        InlinePlanner x = States.smallest();
        for (int verdict = 0; verdict <= 7; verdict++) {
            dueAnswer(x, "0.0", Calls.WEIGHT_OF, verdict);
        }
    }

    /** Methods 0 to 4 call the next one, 5 and 6 do so 8 times, and 7 calls itself 8 times. */
    private static InlinePlanner greatest() {
        InlinePlanner x = States.row(8, 1);
        for (int m = 0; m < 5; m++) {
            States.call(x, m, m + 1, 20);
        }
        for (int site = 0; site < 8; site++) {
            States.call(x, 5, 6, 20);
            States.call(x, 6, 7, 20);
            States.call(x, 7, 7, 20);
        }
        x.setLimits(5000, 10, 5);
        return x;
    }

    /** 50 nodes, most of whose sites have the weight 1000000. */
    private static void greatestSums() {
        InlinePlanner x = greatest();
        Check.due("plan(0)", 50, x.plan(0));
        // Nodes 0 to 5, 8 copies of method 6, and 36 of method 7.
        long inlined = 20 + 400 + 8000 + 160000 + 1000000 + 8 * 1000000 + 36 * 1000000;
        Check.due("weightOf(0)", inlined, x.weightOf(INLINED));
        Check.due("weightOf(6)", (64 - 36) * 1000000 + 36 * 8 * 1000000, x.weightOf(FULL));
        Check.dueDouble("share()", (double) inlined / (inlined + 316000000), x.share());
    }

    // Promise 28. "Rounded to the nearest double; 1 if there are no sites."

    private static void shareWithoutSites() {
        Check.dueDouble("share()", 1.0, States.smallest().share());
    }

    private static void shareOfNothing() {
        InlinePlanner x = States.flat(1);
        x.addCall(0, 0, 7, 1);
        x.plan(0);
        Check.dueDouble("share()", 0.0, x.share());
    }

    private static void shareOfAll() {
        InlinePlanner x = States.flat(1, 1);
        x.addCall(0, 0, 1, 1);
        x.plan(0);
        Check.dueDouble("share()", 1.0, x.share());
        x.addCall(0, 0, 1, 20);
        x.plan(0);
        Check.dueDouble("share()", 1.0, x.share());
    }

    /** Most of these quotients are not doubles. */
    private static void shareIsRounded() {
        for (int others = 1; others <= 140; others++) {
            InlinePlanner x = States.flat(1, 1);
            x.addCall(0, 0, 1, 1);
            for (int left = others; left > 0; left -= 20) {
                x.addCall(0, 0, 7, Math.min(left, 20));
            }
            x.plan(0);
            BigDecimal want = BigDecimal.ONE.divide(BigDecimal.valueOf(1 + others), 60, RoundingMode.HALF_EVEN);
            Check.dueDouble("share(), 1 of " + (1 + others), want.doubleValue(), x.share());
        }
    }
}
