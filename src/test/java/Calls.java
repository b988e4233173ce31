import java.util.Arrays;

/** The calls of the face by the numbers of their promises, so that tests can hold calls in rows. */
final class Calls {
    static final int ADD_CLASS = 2;
    static final int SET_LIVE = 3;
    static final int CLASS_COUNT = 4;
    static final int PARENT = 5;
    static final int IS_BELOW = 6;
    static final int LIVE_BELOW = 7;
    static final int ADD_METHOD = 8;
    static final int ADD_CALL = 9;
    static final int METHOD_COUNT = 10;
    static final int FOUND = 11;
    static final int TARGET_COUNT = 12;
    static final int TARGET = 13;
    static final int REACHED = 14;
    static final int SET_LIMITS = 15;
    static final int PLAN = 16;
    static final int HAS_PLAN = 17;
    static final int NODE_COUNT = 18;
    static final int SIZE = 19;
    static final int METHOD = 20;
    static final int PARENT_NODE = 21;
    static final int SITE_OF = 22;
    static final int DEPTH = 23;
    static final int SITE_COUNT = 24;
    static final int VERDICT = 25;
    static final int WEIGHT = 26;
    static final int WEIGHT_OF = 27;
    static final int SHARE = 28;
    static final int HOLDS = 29;
    static final int FIRST_BROKEN = 30;
    static final int PRUNE = 31;
    static final int DIGEST = 32;

    private static final String[] NAMES = {null, null, "addClass", "setLive", "classCount", "parent", "isBelow",
        "liveBelow", "addMethod", "addCall", "methodCount", "found", "targetCount", "target", "reached", "setLimits",
        "plan", "hasPlan", "nodeCount", "size", "method", "parentNode", "siteOf", "depth", "siteCount", "verdict",
        "weight", "weightOf", "share", "holds", "firstBroken", "prune", "digest"};

    private Calls() {
    }

    /** The call as it would be written; the number of its promise stands first in the row. */
    static String text(int... call) {
        StringBuilder s = new StringBuilder(NAMES[call[0]]).append('(');
        for (int k = 1; k < call.length; k++) {
            s.append(k == 1 ? "" : ", ").append(call[k]);
        }
        return s.append(')').toString();
    }

    /** The answer as a text; an exception counts by the name of its class. */
    static String answer(InlinePlanner x, int... call) {
        int[] row = Arrays.copyOf(call, 5);
        try {
            return row[0] == DIGEST ? String.valueOf(x.digest())
                : String.valueOf(number(x, row[0], row[1], row[2], row[3], row[4]));
        } catch (RuntimeException e) {
            return e.getClass().getName();
        }
    }

    /** The answer as a number; a boolean counts 1 or 0. All but digest, whose answers a double does not hold. */
    static double number(InlinePlanner x, int promise, int a, int b, int c, int d) {
        switch (promise) {
            case ADD_CLASS: return x.addClass(a);
            case SET_LIVE: return x.setLive(a, b != 0) ? 1 : 0;
            case CLASS_COUNT: return x.classCount();
            case PARENT: return x.parent(a);
            case IS_BELOW: return x.isBelow(a, b) ? 1 : 0;
            case LIVE_BELOW: return x.liveBelow(a);
            case ADD_METHOD: return x.addMethod(a, b, c);
            case ADD_CALL: return x.addCall(a, b, c, d);
            case METHOD_COUNT: return x.methodCount();
            case FOUND: return x.found(a, b);
            case TARGET_COUNT: return x.targetCount(a, b);
            case TARGET: return x.target(a, b, c);
            case REACHED: return x.reached(a);
            case SET_LIMITS: return x.setLimits(a, b, c) ? 1 : 0;
            case PLAN: return x.plan(a);
            case HAS_PLAN: return x.hasPlan() ? 1 : 0;
            case NODE_COUNT: return x.nodeCount();
            case SIZE: return x.size();
            case METHOD: return x.method(a);
            case PARENT_NODE: return x.parentNode(a);
            case SITE_OF: return x.siteOf(a);
            case DEPTH: return x.depth(a);
            case SITE_COUNT: return x.siteCount(a);
            case VERDICT: return x.verdict(a, b);
            case WEIGHT: return x.weight(a, b);
            case WEIGHT_OF: return x.weightOf(a);
            case SHARE: return x.share();
            case HOLDS: return x.holds(a) ? 1 : 0;
            case FIRST_BROKEN: return x.firstBroken();
            case PRUNE: return x.prune();
            default: throw new AssertionError("no promise " + promise);
        }
    }
}
