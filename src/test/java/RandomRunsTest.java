import java.util.Random;

/** Many runs of up to 512 calls, drawn from fixed seeds, whose answers are compared with the plain model's. */
public final class RandomRunsTest {
    private static final int RUNS = 1500;
    private static final int CALLS = 500;
    private static final int[] EXTREMES = {-1, 8, 16, 30, 50, Integer.MIN_VALUE, Integer.MAX_VALUE};
    /** How often each verdict, a plan with 50 nodes, and a prune that removes something were seen. */
    private static final long[] SEEN = new long[10];

    private final Random random;
    private final InlinePlanner planner = new InlinePlanner();
    private final PlainModel model = new PlainModel();
    private final int maxClasses;
    private final int selectors;
    private final int maxSize;
    private final int minFrequency;
    private final int run;
    private int calls = 0;
    private int classes = 1;
    private int methods = 0;

    private RandomRunsTest(int run) {
        this.run = run;
        // Seeds near each other draw almost the same first numbers.
        random = new Random(run * 0x9E3779B97F4A7C15L);
        maxClasses = 1 + random.nextInt(18);
        selectors = 1 + random.nextInt(8);
        maxSize = random.nextBoolean() ? 100 : 1 + random.nextInt(8);
        minFrequency = random.nextBoolean() ? 1 : 15;
    }

    public static void main(String[] args) {
        for (int run = 0; run < RUNS; run++) {
            new RandomRunsTest(run).go();
        }
        for (int k = 0; k < SEEN.length; k++) {
            if (SEEN[k] < 100) {
                Check.report("the runs see kind " + k + " only " + SEEN[k] + " times");
            }
        }
        Check.end();
    }

    private void go() {
        int building = 20 + random.nextInt(200);
        while (calls < CALLS) {
            if (calls < building) {
                build();
            } else {
                ask();
            }
            dueDigest();
        }
    }

    private void build() {
        int kind = random.nextInt(10);
        if (kind == 0 && classes < maxClasses) {
            classes += same(2, number(classes), 0, 0, 0) > 0 ? 1 : 0;
        } else if (kind < 2) {
            same(3, number(classes), random.nextInt(3), 0, 0);
        } else if (kind < 5) {
            methods += same(8, number(classes), number(selectors), 1 + number(maxSize), 0) >= 0 ? 1 : 0;
        } else {
            int frequency = minFrequency + number(21 - minFrequency);
            same(9, number(methods + 1), number(classes), number(selectors), frequency);
        }
    }

    private void ask() {
        int kind = random.nextInt(40);
        if (kind == 0) {
            build();
        } else if (kind == 1) {
            limits();
        } else if (kind < 8) {
            same(16, number(methods + 1), 0, 0, 0);
            lookAtPlan();
        } else if (kind < 16) {
            same(3, number(classes), random.nextInt(2), 0, 0);
        } else if (kind < 18) {
            methods += same(8, number(classes), number(selectors), 1 + number(maxSize), 0) >= 0 ? 1 : 0;
        } else if (kind < 22) {
            SEEN[9] += same(31, 0, 0, 0, 0) > 0 ? 1 : 0;
            lookAtPlan();
        } else {
            askAnything(4 + random.nextInt(28));
        }
    }

    private void askAnything(int promise) {
        boolean builds = promise == 8 || promise == 9 || promise == 15 || promise == 16;
        if (!builds) {
            boolean ofNode = promise >= 20 && promise != 27;
            int bound = promise == 14 ? methods + 1 : ofNode ? 1 + number(51) : 1 + classes;
            same(promise, number(Math.max(1, bound)), number(9), number(4), 0);
        }
    }

    private void limits() {
        int budget = random.nextBoolean() ? 5000 : 1 + random.nextInt(300);
        same(15, random.nextInt(20) == 0 ? 5001 : budget, number(11), number(6), 0);
    }

    private void lookAtPlan() {
        SEEN[8] += same(18, 0, 0, 0, 0) == 50 ? 1 : 0;
        same(28, 0, 0, 0, 0);
        int verdict = random.nextInt(8);
        SEEN[verdict] += same(27, verdict, 0, 0, 0) > 0 ? 1 : 0;
    }

    /** Mostly a number from 0 to bound - 1, now and then one far from that. */
    private int number(int bound) {
        return random.nextInt(40) == 0 ? EXTREMES[random.nextInt(EXTREMES.length)] : random.nextInt(bound);
    }

    private void dueDigest() {
        calls++;
        Check.due("run " + run + ": digest()", model.digest(), planner.digest());
    }

    /** Makes the call on both, and compares; an exception counts by its class. */
    private double same(int promise, int a, int b, int c, int d) {
        calls++;
        String want;
        double answer = -1;
        try {
            answer = model.call(promise, a, b, c, d);
            want = String.valueOf(answer);
        } catch (RuntimeException e) {
            want = e.getClass().getName();
        }
        Check.dueText("run " + run + ": " + Calls.text(promise, a, b, c, d), want,
            Calls.answer(planner, promise, a, b, c, d));
        return answer;
    }
}
