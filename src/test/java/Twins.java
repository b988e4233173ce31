import java.util.ArrayList;
import java.util.List;
import java.util.function.Supplier;

/**
 * "A method that throws an exception changes nothing." Of two objects that were made by the same calls, one gets
 * the refused call and the other does not; behind it they must answer every call alike.
 */
final class Twins {
    /** How many answers a pair gives: with the calls that made it they stay below the 512 of one object. */
    private static final int PAGE = 100;

    private final Supplier<InlinePlanner> state;
    private final String want;
    private final int[] refused;

    private Twins(Supplier<InlinePlanner> state, Class<? extends RuntimeException> want, int[] refused) {
        this.state = state;
        this.want = want.getName();
        this.refused = refused;
    }

    /** In this state the call throws exactly this exception, and every answer afterwards is as it was before. */
    static void dueRefused(Supplier<InlinePlanner> state, Class<? extends RuntimeException> want, int... call) {
        Twins twins = new Twins(state, want, call);
        List<int[]> questions = questions(state.get());
        for (int from = 0; from < questions.size(); from += PAGE) {
            twins.dueAlike(questions.subList(from, Math.min(from + PAGE, questions.size())));
        }
        twins.dueAlike(plansAndLiveClasses(state.get()));
        twins.dueAlike(additions(state.get()));
    }

    private void dueAlike(List<int[]> calls) {
        InlinePlanner one = state.get();
        InlinePlanner other = state.get();
        Check.dueText(Calls.text(refused), want, Calls.answer(one, refused));
        for (int[] call : calls) {
            Check.dueText(Calls.text(call) + " behind " + Calls.text(refused), Calls.answer(other, call),
                Calls.answer(one, call));
        }
    }

    /** Every question that changes nothing, about all that is there and the first that is not. */
    private static List<int[]> questions(InlinePlanner x) {
        List<int[]> all = new ArrayList<>();
        for (int promise : new int[] {Calls.DIGEST, Calls.CLASS_COUNT, Calls.METHOD_COUNT, Calls.HAS_PLAN,
            Calls.NODE_COUNT, Calls.SIZE, Calls.SHARE, Calls.FIRST_BROKEN}) {
            all.add(new int[] {promise});
        }
        int classes = x.classCount();
        for (int c = 0; c <= classes; c++) {
            all.add(new int[] {Calls.PARENT, c});
            all.add(new int[] {Calls.LIVE_BELOW, c});
            for (int d = 0; d < classes; d++) {
                all.add(new int[] {Calls.IS_BELOW, c, d});
            }
            for (int selector = 0; selector < 8; selector++) {
                all.add(new int[] {Calls.FOUND, c, selector});
                all.add(new int[] {Calls.TARGET_COUNT, c, selector});
                all.add(new int[] {Calls.TARGET, c, selector, 0});
                all.add(new int[] {Calls.TARGET, c, selector, 1});
            }
        }
        for (int m = 0; m <= x.methodCount(); m++) {
            all.add(new int[] {Calls.REACHED, m});
        }
        for (int verdict = 0; verdict <= 7; verdict++) {
            all.add(new int[] {Calls.WEIGHT_OF, verdict});
        }
        addNodes(all, x);
        return all;
    }

    private static void addNodes(List<int[]> all, InlinePlanner x) {
        int nodes = x.hasPlan() ? x.nodeCount() : 0;
        for (int node = 0; node <= nodes; node++) {
            for (int promise : new int[] {Calls.METHOD, Calls.PARENT_NODE, Calls.SITE_OF, Calls.DEPTH,
                Calls.SITE_COUNT, Calls.HOLDS}) {
                all.add(new int[] {promise, node});
            }
            int sites = node < nodes ? x.siteCount(node) : 0;
            for (int site = 0; site <= sites; site++) {
                all.add(new int[] {Calls.VERDICT, node, site});
                all.add(new int[] {Calls.WEIGHT, node, site});
            }
        }
    }

    /** What is pruned, planned and live: sites and live classes show in nothing else. */
    private static List<int[]> plansAndLiveClasses(InlinePlanner x) {
        List<int[]> all = new ArrayList<>();
        all.add(new int[] {Calls.PRUNE});
        all.add(new int[] {Calls.DIGEST});
        for (int m = 0; m < x.methodCount(); m++) {
            all.add(new int[] {Calls.PLAN, m});
            all.add(new int[] {Calls.SIZE});
            all.add(new int[] {Calls.DIGEST});
        }
        for (int c = 0; c < x.classCount(); c++) {
            all.add(new int[] {Calls.SET_LIVE, c, 1});
        }
        all.add(new int[] {Calls.FIRST_BROKEN});
        return all;
    }

    /** The numbers of what is added next, what is refused next, and plans with all that. */
    private static List<int[]> additions(InlinePlanner x) {
        List<int[]> all = new ArrayList<>();
        all.add(new int[] {Calls.SET_LIMITS, 200, 4, 1});
        int last = x.classCount() - 1;
        all.add(new int[] {Calls.ADD_CLASS, last});
        all.add(new int[] {Calls.SET_LIVE, last, 1});
        for (int selector = 0; selector < 8; selector++) {
            all.add(new int[] {Calls.ADD_METHOD, 0, selector, 1});
            all.add(new int[] {Calls.ADD_METHOD, last, selector, 100});
        }
        for (int m = 0; m < x.methodCount() + 1; m++) {
            all.add(new int[] {Calls.ADD_CALL, m, 0, m % 8, 20});
        }
        for (int m = 0; m < x.methodCount() + 1; m++) {
            all.add(new int[] {Calls.PLAN, m});
            all.add(new int[] {Calls.DIGEST});
        }
        all.add(new int[] {Calls.REACHED, 0});
        return all;
    }
}
