import java.util.Random;

/** Many runs of up to 512 calls, drawn from fixed seeds, whose answers are compared with the plain model's. */
public final class RandomRunsTest {
    private static final int RUNS = 1500;
    private static final int CALLS = 500;
    private static final String[] NAMES = {null, null, "addClass", "setLive", "classCount", "parent", "isBelow",
        "liveBelow", "addMethod", "addCall", "methodCount", "found", "targetCount", "target", "reached", "setLimits",
        "plan", "hasPlan", "nodeCount", "size", "method", "parentNode", "siteOf", "depth", "siteCount", "verdict",
        "weight", "weightOf", "share", "holds", "firstBroken", "prune"};
    private static final int[] EXTREMES = {-1, 8, 16, 30, 50, Integer.MIN_VALUE, Integer.MAX_VALUE};
    /** How often each verdict, a plan with 50 nodes, and a prune that removes something were seen. */
    private static final long[] SEEN = new long[10];

    private final Random random;
    private final InlinePlanner planner = new InlinePlanner();
    private final PlainModel model = new PlainModel();
    private final int maxClasses;
    private final int selectors;
    private final int maxSize;
    private final int minFrequency;
    private final int run;
    private int calls = 0;
    private int classes = 1;
    private int methods = 0;

    private RandomRunsTest(int run) {
        this.run = run;
        // Seeds near each other draw almost the same first numbers.
        random = new Random(run * 0x9E3779B97F4A7C15L);
        maxClasses = 1 + random.nextInt(18);
        selectors = 1 + random.nextInt(8);
        maxSize = random.nextBoolean() ? 100 : 1 + random.nextInt(8);
        minFrequency = random.nextBoolean() ? 1 : 15;
    }

    public static void main(String[] args) {
        for (int run = 0; run < RUNS; run++) {
            new RandomRunsTest(run).go();
        }
        for (int k = 0; k < SEEN.length; k++) {
            if (SEEN[k] < 100) {
                Check.report("the runs see kind " + k + " only " + SEEN[k] + " times");
            }
        }
        Check.end();
    }

    private void go() {
        int building = 20 + random.nextInt(200);
        while (calls < CALLS) {
            if (calls < building) {
                build();
            } else {
                ask();
            }
            dueDigest();
        }
    }

    private void build() {
        int kind = random.nextInt(10);
        if (kind == 0 && classes < maxClasses) {
            classes += same(2, number(classes), 0, 0, 0) > 0 ? 1 : 0;
        } else if (kind < 2) {
            same(3, number(classes), random.nextInt(3), 0, 0);
        } else if (kind < 5) {
            methods += same(8, number(classes), number(selectors), 1 + number(maxSize), 0) >= 0 ? 1 : 0;
        } else {
            int frequency = minFrequency + number(21 - minFrequency);
            same(9, number(methods + 1), number(classes), number(selectors), frequency);
        }
    }

    private void ask() {
        int kind = random.nextInt(40);
        if (kind == 0) {
            build();
        } else if (kind == 1) {
            limits();
        } else if (kind < 8) {
            same(16, number(methods + 1), 0, 0, 0);
            lookAtPlan();
        } else if (kind < 16) {
            same(3, number(classes), random.nextInt(2), 0, 0);
        } else if (kind < 18) {
            methods += same(8, number(classes), number(selectors), 1 + number(maxSize), 0) >= 0 ? 1 : 0;
        } else if (kind < 22) {
            SEEN[9] += same(31, 0, 0, 0, 0) > 0 ? 1 : 0;
            lookAtPlan();
        } else {
            askAnything(4 + random.nextInt(28));
        }
    }

    private void askAnything(int promise) {
        boolean builds = promise == 8 || promise == 9 || promise == 15 || promise == 16;
        if (!builds) {
            boolean ofNode = promise >= 20 && promise != 27;
            int bound = promise == 14 ? methods + 1 : ofNode ? 1 + number(51) : 1 + classes;
            same(promise, number(Math.max(1, bound)), number(9), number(4), 0);
        }
    }

    private void limits() {
        int budget = random.nextBoolean() ? 5000 : 1 + random.nextInt(300);
        same(15, random.nextInt(20) == 0 ? 5001 : budget, number(11), number(6), 0);
    }

    private void lookAtPlan() {
        SEEN[8] += same(18, 0, 0, 0, 0) == 50 ? 1 : 0;
        same(28, 0, 0, 0, 0);
        int verdict = random.nextInt(8);
        SEEN[verdict] += same(27, verdict, 0, 0, 0) > 0 ? 1 : 0;
    }

    /** Mostly a number from 0 to bound - 1, now and then one far from that. */
    private int number(int bound) {
        return random.nextInt(40) == 0 ? EXTREMES[random.nextInt(EXTREMES.length)] : random.nextInt(bound);
    }

    private void dueDigest() {
        calls++;
        Check.due("run " + run + ": digest()", model.digest(), planner.digest());
    }

    /** Makes the call on both, and compares; an exception counts by its class. */
    private double same(int promise, int a, int b, int c, int d) {
        calls++;
        String want;
        double answer = -1;
        try {
            answer = model.call(promise, a, b, c, d);
            want = String.valueOf(answer);
        } catch (RuntimeException e) {
            want = e.getClass().getName();
        }
        String got;
        try {
            got = String.valueOf(planned(promise, a, b, c, d));
        } catch (RuntimeException e) {
            got = e.getClass().getName();
        }
        if (!got.equals(want)) {
            Check.report("run " + run + ": " + NAMES[promise] + " of " + a + ", " + b + ", " + c + ", " + d
                + " answered " + got + ", due is " + want);
        }
        return answer;
    }

    private double planned(int promise, int a, int b, int c, int d) {
        InlinePlanner x = planner;
        switch (promise) {
            case 2: return x.addClass(a);
            case 3: return x.setLive(a, b != 0) ? 1 : 0;
            case 4: return x.classCount();
            case 5: return x.parent(a);
            case 6: return x.isBelow(a, b) ? 1 : 0;
            case 7: return x.liveBelow(a);
            case 8: return x.addMethod(a, b, c);
            case 9: return x.addCall(a, b, c, d);
            case 10: return x.methodCount();
            case 11: return x.found(a, b);
            case 12: return x.targetCount(a, b);
            case 13: return x.target(a, b, c);
            case 14: return x.reached(a);
            case 15: return x.setLimits(a, b, c) ? 1 : 0;
            case 16: return x.plan(a);
            case 17: return x.hasPlan() ? 1 : 0;
            case 18: return x.nodeCount();
            case 19: return x.size();
            case 20: return x.method(a);
            case 21: return x.parentNode(a);
            case 22: return x.siteOf(a);
            case 23: return x.depth(a);
            case 24: return x.siteCount(a);
            case 25: return x.verdict(a, b);
            case 26: return x.weight(a, b);
            case 27: return x.weightOf(a);
            case 28: return x.share();
            case 29: return x.holds(a) ? 1 : 0;
            case 30: return x.firstBroken();
            case 31: return x.prune();
            default: throw new AssertionError("no promise " + promise);
        }
    }
}
