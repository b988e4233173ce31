import java.util.List;
import java.util.NoSuchElementException;
import java.util.function.Supplier;

/**
 * "A method that throws an exception changes nothing. If several exceptions apply, the one that is named first is
 * thrown." For every exception of every promise: at the first values that are not allowed, in every state, alone
 * and together with those that are named later; and every answer afterwards is as it was before.
 */
public final class RefusedCallsTest {
    private static final Class<IndexOutOfBoundsException> INDEX = IndexOutOfBoundsException.class;
    private static final Class<IllegalArgumentException> ARGUMENT = IllegalArgumentException.class;
    private static final Class<IllegalStateException> STATE = IllegalStateException.class;
    private static final Class<NoSuchElementException> ELEMENT = NoSuchElementException.class;

    private static final List<Supplier<InlinePlanner>> WITHOUT_PLAN = List.of(States::fresh, States::unplanned);
    private static final List<Supplier<InlinePlanner>> WITH_PLAN =
        List.of(States::smallest, States::planned, States::broken, States::pruned, States::full);
    private static final List<Supplier<InlinePlanner>> WITH_METHODS = List.of(States::smallest, States::unplanned,
        States::planned, States::broken, States::pruned, States::full);
    private static final List<Supplier<InlinePlanner>> ALL = List.of(States::fresh, States::smallest,
        States::unplanned, States::planned, States::broken, States::pruned, States::full);
    private static final int[] NO_SIZE = noneOf(1, 100);
    private static final int[] NO_FREQUENCY = noneOf(1, 20);
    private static final int[] NO_SELECTOR = noneOf(0, 7);

    public static void main(String[] args) {
        questionsAboutNoClass();
        addClassToNoClass();
        addClassWhenFull();
        setLiveOfNoClass();
        addMethodToNoClassOrSelector();
        addMethodOfWrongSize();
        addMethodTwice();
        addMethodWhenFull();
        addCallWithoutMethod();
        addCallOfWrongNumbers();
        addCallOfWrongFrequency();
        addCallWhenFull();
        questionsAboutNoSelector();
        noSuchTarget();
        noSuchMethod();
        wrongLimits();
        noPlan();
        noSuchNode();
        noSuchSite();
        noSuchVerdict();
        Check.end();
    }

    /** The first numbers on both sides that are not from first to last, and the ones farthest from it. */
    private static int[] noneOf(int first, int last) {
        return new int[] {first - 1, last + 1, Integer.MIN_VALUE, Integer.MAX_VALUE};
    }

    private static int[] noClassOf(Supplier<InlinePlanner> state) {
        return noneOf(0, state.get().classCount() - 1);
    }

    private static int[] noMethodOf(Supplier<InlinePlanner> state) {
        return noneOf(0, state.get().methodCount() - 1);
    }

    private static int[] noNodeOf(Supplier<InlinePlanner> state) {
        return noneOf(0, state.get().nodeCount() - 1);
    }

    private static void questionsAboutNoClass() {
        for (Supplier<InlinePlanner> state : ALL) {
            for (int bad : noClassOf(state)) {
                Twins.dueRefused(state, INDEX, Calls.PARENT, bad);
                Twins.dueRefused(state, INDEX, Calls.IS_BELOW, bad, 0);
                Twins.dueRefused(state, INDEX, Calls.IS_BELOW, 0, bad);
                Twins.dueRefused(state, INDEX, Calls.IS_BELOW, bad, bad);
                Twins.dueRefused(state, INDEX, Calls.LIVE_BELOW, bad);
                Twins.dueRefused(state, INDEX, Calls.FOUND, bad, 0);
                Twins.dueRefused(state, INDEX, Calls.TARGET_COUNT, bad, 0);
                Twins.dueRefused(state, INDEX, Calls.TARGET, bad, 0, 0);
            }
        }
    }

    private static void addClassToNoClass() {
        for (Supplier<InlinePlanner> state : ALL) {
            // In the full state both exceptions apply.
            for (int bad : noClassOf(state)) {
                Twins.dueRefused(state, INDEX, Calls.ADD_CLASS, bad);
            }
        }
    }

    private static void addClassWhenFull() {
        for (int parent = 0; parent < 16; parent++) {
            Twins.dueRefused(States::full, STATE, Calls.ADD_CLASS, parent);
        }
    }

    private static void setLiveOfNoClass() {
        for (Supplier<InlinePlanner> state : ALL) {
            for (int bad : noClassOf(state)) {
                Twins.dueRefused(state, INDEX, Calls.SET_LIVE, bad, 0);
                Twins.dueRefused(state, INDEX, Calls.SET_LIVE, bad, 1);
            }
        }
    }

    private static void addMethodToNoClassOrSelector() {
        for (Supplier<InlinePlanner> state : ALL) {
            for (int bad : noClassOf(state)) {
                Twins.dueRefused(state, INDEX, Calls.ADD_METHOD, bad, 7, 1);
                Twins.dueRefused(state, INDEX, Calls.ADD_METHOD, bad, 7, 0);
                Twins.dueRefused(state, INDEX, Calls.ADD_METHOD, bad, 8, 101);
            }
            for (int bad : NO_SELECTOR) {
                Twins.dueRefused(state, INDEX, Calls.ADD_METHOD, 0, bad, 1);
                Twins.dueRefused(state, INDEX, Calls.ADD_METHOD, 0, bad, 0);
                Twins.dueRefused(state, INDEX, Calls.ADD_METHOD, 0, bad, 101);
            }
        }
    }

    private static void addMethodOfWrongSize() {
        for (Supplier<InlinePlanner> state : ALL) {
            // Class 0 has no method for selector 7; in the full state there are 30 methods, too.
            for (int bad : NO_SIZE) {
                Twins.dueRefused(state, ARGUMENT, Calls.ADD_METHOD, 0, 7, bad);
            }
        }
    }

    private static void addMethodTwice() {
        for (Supplier<InlinePlanner> state : WITH_METHODS) {
            Twins.dueRefused(state, ARGUMENT, Calls.ADD_METHOD, 0, 0, 1);
            Twins.dueRefused(state, ARGUMENT, Calls.ADD_METHOD, 0, 0, 100);
            Twins.dueRefused(state, ARGUMENT, Calls.ADD_METHOD, 0, 0, 0);
        }
        Twins.dueRefused(States::planned, ARGUMENT, Calls.ADD_METHOD, 2, 4, 1);
        Twins.dueRefused(States::full, ARGUMENT, Calls.ADD_METHOD, 15, 7, 1);
    }

    private static void addMethodWhenFull() {
        Twins.dueRefused(States::full, STATE, Calls.ADD_METHOD, 0, 7, 1);
        Twins.dueRefused(States::full, STATE, Calls.ADD_METHOD, 0, 7, 100);
        Twins.dueRefused(States::full, STATE, Calls.ADD_METHOD, 15, 0, 1);
    }

    private static void addCallWithoutMethod() {
        Twins.dueRefused(States::fresh, INDEX, Calls.ADD_CALL, 0, 0, 0, 1);
        Twins.dueRefused(States::fresh, INDEX, Calls.ADD_CALL, 0, 0, 0, 0);
        Twins.dueRefused(States::fresh, INDEX, Calls.ADD_CALL, -1, 0, 0, 1);
    }

    private static void addCallOfWrongNumbers() {
        for (Supplier<InlinePlanner> state : WITH_METHODS) {
            // In the full state the method has 8 sites, too.
            for (int frequency : new int[] {1, 0, 21}) {
                for (int bad : noMethodOf(state)) {
                    Twins.dueRefused(state, INDEX, Calls.ADD_CALL, bad, 0, 0, frequency);
                }
                for (int bad : noClassOf(state)) {
                    Twins.dueRefused(state, INDEX, Calls.ADD_CALL, 0, bad, 0, frequency);
                }
                for (int bad : NO_SELECTOR) {
                    Twins.dueRefused(state, INDEX, Calls.ADD_CALL, 0, 0, bad, frequency);
                }
            }
        }
    }

    private static void addCallOfWrongFrequency() {
        for (Supplier<InlinePlanner> state : WITH_METHODS) {
            for (int bad : NO_FREQUENCY) {
                Twins.dueRefused(state, ARGUMENT, Calls.ADD_CALL, 0, 0, 0, bad);
            }
        }
    }

    private static void addCallWhenFull() {
        Twins.dueRefused(States::full, STATE, Calls.ADD_CALL, 0, 0, 0, 1);
        Twins.dueRefused(States::full, STATE, Calls.ADD_CALL, 29, 15, 7, 20);
    }

    private static void questionsAboutNoSelector() {
        for (Supplier<InlinePlanner> state : ALL) {
            for (int bad : NO_SELECTOR) {
                Twins.dueRefused(state, INDEX, Calls.FOUND, 0, bad);
                Twins.dueRefused(state, INDEX, Calls.FOUND, -1, bad);
                Twins.dueRefused(state, INDEX, Calls.TARGET_COUNT, 0, bad);
                Twins.dueRefused(state, INDEX, Calls.TARGET_COUNT, -1, bad);
                Twins.dueRefused(state, INDEX, Calls.TARGET, 0, bad, 0);
                Twins.dueRefused(state, INDEX, Calls.TARGET, 0, bad, -1);
            }
        }
    }

    private static void noSuchTarget() {
        for (Supplier<InlinePlanner> state : ALL) {
            for (int selector = 0; selector < 8; selector++) {
                for (int bad : noneOf(0, state.get().targetCount(0, selector) - 1)) {
                    Twins.dueRefused(state, ELEMENT, Calls.TARGET, 0, selector, bad);
                }
            }
            for (int bad : noClassOf(state)) {
                Twins.dueRefused(state, INDEX, Calls.TARGET, bad, 0, -1);
                Twins.dueRefused(state, INDEX, Calls.TARGET, bad, 8, Integer.MAX_VALUE);
            }
        }
    }

    private static void noSuchMethod() {
        for (Supplier<InlinePlanner> state : ALL) {
            for (int bad : noMethodOf(state)) {
                Twins.dueRefused(state, INDEX, Calls.REACHED, bad);
                Twins.dueRefused(state, INDEX, Calls.PLAN, bad);
            }
        }
    }

    private static void wrongLimits() {
        for (Supplier<InlinePlanner> state : ALL) {
            for (int bad : noneOf(1, 5000)) {
                Twins.dueRefused(state, ARGUMENT, Calls.SET_LIMITS, bad, 7, 3);
            }
            for (int bad : noneOf(0, 10)) {
                Twins.dueRefused(state, ARGUMENT, Calls.SET_LIMITS, 300, bad, 3);
            }
            for (int bad : noneOf(0, 5)) {
                Twins.dueRefused(state, ARGUMENT, Calls.SET_LIMITS, 300, 7, bad);
            }
            Twins.dueRefused(state, ARGUMENT, Calls.SET_LIMITS, 0, -1, -1);
            Twins.dueRefused(state, ARGUMENT, Calls.SET_LIMITS, 5001, 11, 6);
        }
    }

    private static void noPlan() {
        for (Supplier<InlinePlanner> state : WITHOUT_PLAN) {
            for (int promise : new int[] {Calls.NODE_COUNT, Calls.SIZE, Calls.SHARE, Calls.FIRST_BROKEN,
                Calls.PRUNE}) {
                Twins.dueRefused(state, STATE, promise);
            }
            // Without a plan there is no node either: the exception for the plan is named first.
            for (int node : new int[] {0, -1, 50, Integer.MIN_VALUE, Integer.MAX_VALUE}) {
                for (int promise : new int[] {Calls.METHOD, Calls.PARENT_NODE, Calls.SITE_OF, Calls.DEPTH,
                    Calls.SITE_COUNT, Calls.HOLDS, Calls.WEIGHT_OF}) {
                    Twins.dueRefused(state, STATE, promise, node);
                }
                for (int site : new int[] {0, -1, 8}) {
                    Twins.dueRefused(state, STATE, Calls.VERDICT, node, site);
                    Twins.dueRefused(state, STATE, Calls.WEIGHT, node, site);
                }
            }
            Twins.dueRefused(state, STATE, Calls.WEIGHT_OF, 7);
            Twins.dueRefused(state, STATE, Calls.WEIGHT_OF, 8);
        }
    }

    private static void noSuchNode() {
        for (Supplier<InlinePlanner> state : WITH_PLAN) {
            for (int bad : noNodeOf(state)) {
                for (int promise : new int[] {Calls.METHOD, Calls.PARENT_NODE, Calls.SITE_OF, Calls.DEPTH,
                    Calls.SITE_COUNT, Calls.HOLDS}) {
                    Twins.dueRefused(state, INDEX, promise, bad);
                }
                for (int site : new int[] {0, -1, 8}) {
                    Twins.dueRefused(state, INDEX, Calls.VERDICT, bad, site);
                    Twins.dueRefused(state, INDEX, Calls.WEIGHT, bad, site);
                }
            }
        }
    }

    private static void noSuchSite() {
        for (Supplier<InlinePlanner> state : WITH_PLAN) {
            int last = state.get().nodeCount() - 1;
            for (int node : new int[] {0, last}) {
                for (int bad : noneOf(0, state.get().siteCount(node) - 1)) {
                    Twins.dueRefused(state, INDEX, Calls.VERDICT, node, bad);
                    Twins.dueRefused(state, INDEX, Calls.WEIGHT, node, bad);
                }
            }
        }
    }

    private static void noSuchVerdict() {
        for (Supplier<InlinePlanner> state : WITH_PLAN) {
            for (int bad : noneOf(0, 7)) {
                Twins.dueRefused(state, INDEX, Calls.WEIGHT_OF, bad);
            }
        }
    }
}
