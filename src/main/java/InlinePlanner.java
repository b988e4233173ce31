import java.util.NoSuchElementException;

/**
 * Plans which calls of a program with a class hierarchy are replaced by the bodies of their only
 * targets, and tells which parts of a plan do not hold any more when the hierarchy has changed.
 */
public final class InlinePlanner {
    private static final int MAX_CLASSES = 16;
    private static final int SELECTORS = 8;
    private static final int MAX_METHODS = 30;
    private static final int MAX_METHOD_SIZE = 100;
    private static final int MAX_SITES = 8;
    private static final int MAX_FREQUENCY = 20;
    private static final int MAX_BUDGET = 5000;
    private static final int MAX_DEPTH = 10;
    private static final int MAX_RECURSION = 5;
    private static final int MAX_NODES = 50;
    private static final int MAX_SLOTS = MAX_NODES * MAX_SITES;
    private static final int MAX_WEIGHT = 1000000;
    private static final int MERIT_SCALE = 1000;

    private static final int INLINED = 0;
    private static final int NONE = 1;
    private static final int SEVERAL = 2;
    private static final int DEEP = 3;
    private static final int RECURSIVE = 4;
    private static final int DEAR = 5;
    private static final int FULL = 6;
    private static final int BROKEN = 7;
    /** Stands in a verdict's place only while a plan is being made. */
    private static final int CANDIDATE = -1;

    private static final long DIGEST_START = 89;
    private static final long DIGEST_FACTOR = 31;

    private final Hierarchy hierarchy;
    private final Program program;
    private final Limits limits;
    private final Tree tree;

    public InlinePlanner() {
        hierarchy = new Hierarchy();
        program = new Program(hierarchy);
        limits = new Limits();
        tree = new Tree(program, limits);
    }

    // ---- classes

    public int addClass(int parent) throws IndexOutOfBoundsException, IllegalStateException {
        checkClass(parent);
        if (hierarchy.count >= MAX_CLASSES) {
            throw new IllegalStateException("there are 16 classes");
        }
        return hierarchy.append(parent);
    }

    public boolean setLive(int c, boolean isLive) throws IndexOutOfBoundsException {
        checkClass(c);
        boolean before = hierarchy.live[c];
        hierarchy.live[c] = isLive;
        return before;
    }

    public int classCount() {
        return hierarchy.count;
    }

    public int parent(int c) throws IndexOutOfBoundsException {
        checkClass(c);
        return hierarchy.parents[c];
    }

    public boolean isBelow(int c, int d) throws IndexOutOfBoundsException {
        checkClass(c);
        checkClass(d);
        return hierarchy.under(c, d);
    }

    public int liveBelow(int c) throws IndexOutOfBoundsException {
        checkClass(c);
        int sum = 0;
        for (int d = 0; d < hierarchy.count; d++) {
            if (hierarchy.live[d] && hierarchy.under(d, c)) {
                sum++;
            }
        }
        return sum;
    }

    // ---- methods

    public int addMethod(int c, int selector, int size)
            throws IndexOutOfBoundsException, IllegalArgumentException, IllegalStateException {
        checkClass(c);
        checkSelector(selector);
        if (size < 1 || size > MAX_METHOD_SIZE) {
            throw new IllegalArgumentException("the size is not 1 to 100");
        }
        if (program.hasOwn(c, selector)) {
            throw new IllegalArgumentException("the class has a method for this selector");
        }
        if (program.count >= MAX_METHODS) {
            throw new IllegalStateException("there are 30 methods");
        }
        return program.appendMethod(c, selector, size);
    }

    public int addCall(int method, int receiver, int selector, int frequency)
            throws IndexOutOfBoundsException, IllegalArgumentException, IllegalStateException {
        checkMethod(method);
        checkClass(receiver);
        checkSelector(selector);
        if (frequency < 1 || frequency > MAX_FREQUENCY) {
            throw new IllegalArgumentException("the frequency is not 1 to 20");
        }
        if (program.siteCounts[method] >= MAX_SITES) {
            throw new IllegalStateException("the method has 8 sites");
        }
        tree.remove();
        return program.appendSite(method, receiver, selector, frequency);
    }

    public int methodCount() {
        return program.count;
    }

    public int found(int c, int selector) throws IndexOutOfBoundsException {
        checkClass(c);
        checkSelector(selector);
        return program.lookUp(c, selector);
    }

    public int targetCount(int receiver, int selector) throws IndexOutOfBoundsException {
        checkClass(receiver);
        checkSelector(selector);
        return Integer.bitCount(program.targetSet(receiver, selector));
    }

    public int target(int receiver, int selector, int index)
            throws IndexOutOfBoundsException, NoSuchElementException {
        checkClass(receiver);
        checkSelector(selector);
        int m = program.member(program.targetSet(receiver, selector), index);
        if (m < 0) {
            throw new NoSuchElementException("there is no such target");
        }
        return m;
    }

    public int reached(int method) throws IndexOutOfBoundsException {
        checkMethod(method);
        return program.reachableSet(method);
    }

    // ---- plans

    public boolean setLimits(int budget, int depth, int recursion) throws IllegalArgumentException {
        if (budget < 1 || budget > MAX_BUDGET) {
            throw new IllegalArgumentException("the budget is not 1 to 5000");
        }
        if (depth < 0 || depth > MAX_DEPTH) {
            throw new IllegalArgumentException("the depth is not 0 to 10");
        }
        if (recursion < 0 || recursion > MAX_RECURSION) {
            throw new IllegalArgumentException("the recursion is not 0 to 5");
        }
        tree.remove();
        return limits.change(budget, depth, recursion);
    }

    public int plan(int method) throws IndexOutOfBoundsException {
        checkMethod(method);
        tree.grow(method);
        return tree.count;
    }

    public boolean hasPlan() {
        return tree.exists();
    }

    public int nodeCount() throws IllegalStateException {
        checkPlan();
        return tree.count;
    }

    public int size() throws IllegalStateException {
        checkPlan();
        return tree.totalSize;
    }

    public int method(int node) throws IllegalStateException, IndexOutOfBoundsException {
        checkNode(node);
        return tree.methods[node];
    }

    public int parentNode(int node) throws IllegalStateException, IndexOutOfBoundsException {
        checkNode(node);
        return tree.parents[node];
    }

    public int siteOf(int node) throws IllegalStateException, IndexOutOfBoundsException {
        checkNode(node);
        return tree.origins[node];
    }

    public int depth(int node) throws IllegalStateException, IndexOutOfBoundsException {
        checkNode(node);
        return tree.depths[node];
    }

    public int siteCount(int node) throws IllegalStateException, IndexOutOfBoundsException {
        checkNode(node);
        return tree.sitesAt(node);
    }

    public int verdict(int node, int site) throws IllegalStateException, IndexOutOfBoundsException {
        checkSite(node, site);
        return tree.verdicts[slot(node, site)];
    }

    public int weight(int node, int site) throws IllegalStateException, IndexOutOfBoundsException {
        checkSite(node, site);
        return tree.weights[slot(node, site)];
    }

    public long weightOf(int verdict) throws IllegalStateException, IndexOutOfBoundsException {
        checkPlan();
        if (verdict < INLINED || verdict > BROKEN) {
            throw new IndexOutOfBoundsException("the verdict is not 0 to 7");
        }
        return tree.weightBetween(verdict, verdict);
    }

    public double share() throws IllegalStateException {
        checkPlan();
        long all = tree.weightBetween(INLINED, BROKEN);
        if (all == 0) {
            return 1.0;
        }
        return (double) tree.weightBetween(INLINED, INLINED) / (double) all;
    }

    // ---- when the hierarchy has changed

    public boolean holds(int node) throws IllegalStateException, IndexOutOfBoundsException {
        checkNode(node);
        return tree.isSound(node);
    }

    public int firstBroken() throws IllegalStateException {
        checkPlan();
        for (int node = 0; node < tree.count; node++) {
            if (!tree.isSound(node)) {
                return node;
            }
        }
        return -1;
    }

    public int prune() throws IllegalStateException {
        checkPlan();
        int before = tree.count;
        tree.cutBroken();
        return before - tree.count;
    }

    public long digest() {
        long d = hierarchy.mixInto(DIGEST_START);
        d = mix(d, program.count);
        d = limits.mixInto(d);
        return tree.exists() ? tree.mixInto(d) : d;
    }

    // ---- what several methods need

    private void checkClass(int c) {
        if (c < 0 || c >= hierarchy.count) {
            throw new IndexOutOfBoundsException("there is no such class");
        }
    }

    private void checkSelector(int selector) {
        if (selector < 0 || selector >= SELECTORS) {
            throw new IndexOutOfBoundsException("there is no such selector");
        }
    }

    private void checkMethod(int method) {
        if (method < 0 || method >= program.count) {
            throw new IndexOutOfBoundsException("there is no such method");
        }
    }

    private void checkPlan() {
        if (!tree.exists()) {
            throw new IllegalStateException("there is no plan");
        }
    }

    private void checkNode(int node) {
        checkPlan();
        if (node < 0 || node >= tree.count) {
            throw new IndexOutOfBoundsException("there is no such node");
        }
    }

    private void checkSite(int node, int site) {
        checkNode(node);
        if (site < 0 || site >= tree.sitesAt(node)) {
            throw new IndexOutOfBoundsException("there is no such site");
        }
    }

    /** The place of a site in rows that hold MAX_SITES places for each node or each method. */
    private static int slot(int owner, int site) {
        return owner * MAX_SITES + site;
    }

    private static long mix(long d, int x) {
        return d * DIGEST_FACTOR + x;
    }

    /** The classes, their parents, and which of them are live. */
    private static final class Hierarchy {
        int count;
        final int[] parents = new int[MAX_CLASSES];
        final boolean[] live = new boolean[MAX_CLASSES];
        /** Bit d of above[c] tells that c is below d. */
        private final int[] above = new int[MAX_CLASSES];

        Hierarchy() {
            count = 1;
            parents[0] = -1;
            above[0] = 1;
        }

        int append(int parent) {
            int c = count;
            parents[c] = parent;
            above[c] = above[parent] | 1 << c;
            count++;
            return c;
        }

        boolean under(int c, int d) {
            return (above[c] >> d & 1) == 1;
        }

        long mixInto(long start) {
            long d = mix(start, count);
            for (int c = 0; c < count; c++) {
                d = mix(d, parents[c]);
                d = mix(d, live[c] ? 1 : 0);
            }
            return d;
        }
    }

    /** The methods with their sites, and what calls can reach. A set of methods is a number with a bit for each. */
    private static final class Program {
        int count;
        final int[] sizes = new int[MAX_METHODS];
        final int[] siteCounts = new int[MAX_METHODS];
        final int[] frequencies = new int[MAX_METHODS * MAX_SITES];
        private final Hierarchy hierarchy;
        private final int[] receivers = new int[MAX_METHODS * MAX_SITES];
        private final int[] selectors = new int[MAX_METHODS * MAX_SITES];
        /** One more than the number of the class's method for the selector; 0 without one. */
        private final int[] own = new int[MAX_CLASSES * SELECTORS];

        Program(Hierarchy hierarchy) {
            this.hierarchy = hierarchy;
        }

        boolean hasOwn(int c, int selector) {
            return own[c * SELECTORS + selector] > 0;
        }

        int appendMethod(int c, int selector, int size) {
            int m = count;
            sizes[m] = size;
            count++;
            own[c * SELECTORS + selector] = count;
            return m;
        }

        int appendSite(int method, int receiver, int selector, int frequency) {
            int site = siteCounts[method];
            int at = slot(method, site);
            receivers[at] = receiver;
            selectors[at] = selector;
            frequencies[at] = frequency;
            siteCounts[method]++;
            return site;
        }

        int lookUp(int c, int selector) {
            int d = c;
            for (int level = 0; level < MAX_CLASSES && d >= 0; level++) {
                int m = own[d * SELECTORS + selector] - 1;
                if (m >= 0) {
                    return m;
                }
                d = hierarchy.parents[d];
            }
            return -1;
        }

        int targetSet(int receiver, int selector) {
            int set = 0;
            for (int c = receiver; c < hierarchy.count; c++) {
                if (hierarchy.live[c] && hierarchy.under(c, receiver)) {
                    int m = lookUp(c, selector);
                    set |= m < 0 ? 0 : 1 << m;
                }
            }
            return set;
        }

        int targetsOfSite(int method, int site) {
            int at = slot(method, site);
            return targetSet(receivers[at], selectors[at]);
        }

        /** The method of the set that has index smaller ones before it in the set; -1 if there is none. */
        int member(int set, int index) {
            int left = index;
            for (int m = 0; m < count; m++) {
                if (contains(set, m)) {
                    if (left == 0) {
                        return m;
                    }
                    left--;
                }
            }
            return -1;
        }

        int reachableSet(int method) {
            int seen = 1 << method;
            int done = 0;
            for (int round = 0; round < count; round++) {
                int m = member(seen & ~done, 0);
                if (m < 0) {
                    return seen;
                }
                done |= 1 << m;
                seen |= calledFrom(m);
            }
            return seen;
        }

        private int calledFrom(int method) {
            int set = 0;
            for (int site = 0; site < siteCounts[method]; site++) {
                set |= targetsOfSite(method, site);
            }
            return set;
        }

        private static boolean contains(int set, int m) {
            return (set >> m & 1) == 1;
        }
    }

    /** The limits for plans. */
    private static final class Limits {
        int budget = 200;
        int maxDepth = 4;
        int maxRecursion = 1;

        boolean change(int newBudget, int newDepth, int newRecursion) {
            boolean other = newBudget != budget || newDepth != maxDepth || newRecursion != maxRecursion;
            budget = newBudget;
            maxDepth = newDepth;
            maxRecursion = newRecursion;
            return other;
        }

        long mixInto(long start) {
            return mix(mix(mix(start, budget), maxDepth), maxRecursion);
        }
    }

    /** The candidates that wait for their verdict; the one that is taken next stands last. */
    private static final class Waiting {
        int count;
        private final int[] slots = new int[MAX_SLOTS];
        private final int[] merits = new int[MAX_SLOTS];

        void insert(int slot, int merit) {
            int at = count;
            while (at > 0 && !isTakenBefore(slot, merit, at - 1)) {
                slots[at] = slots[at - 1];
                merits[at] = merits[at - 1];
                at--;
            }
            slots[at] = slot;
            merits[at] = merit;
            count++;
        }

        int takeNext() {
            count--;
            return slots[count];
        }

        private boolean isTakenBefore(int slot, int merit, int other) {
            // Slots are in the order of nodes and, within a node, of sites.
            return merit == merits[other] ? slot < slots[other] : merit > merits[other];
        }
    }

    /** The plan: a tree of nodes in which a parent has a smaller number than its children. */
    private static final class Tree {
        /** 0 if there is no plan, since node 0 belongs to every plan. */
        int count;
        int totalSize;
        final int[] methods = new int[MAX_NODES];
        final int[] parents = new int[MAX_NODES];
        /** The sites of the parents for which the nodes were made. */
        final int[] origins = new int[MAX_NODES];
        final int[] depths = new int[MAX_NODES];
        final int[] verdicts = new int[MAX_SLOTS];
        final int[] weights = new int[MAX_SLOTS];
        /** The smallest target of each site when the plan was made; a candidate has no other. */
        private final int[] targets = new int[MAX_SLOTS];
        private final Program program;
        private final Limits limits;
        private final Waiting waiting = new Waiting();
        private final int[] newNumbers = new int[MAX_NODES];

        Tree(Program program, Limits limits) {
            this.program = program;
            this.limits = limits;
        }

        boolean exists() {
            return count > 0;
        }

        void remove() {
            count = 0;
            totalSize = 0;
        }

        int sitesAt(int node) {
            return program.siteCounts[methods[node]];
        }

        void grow(int method) {
            remove();
            appendNode(method, -1, -1, 0, 1);
            for (int taken = 0; taken < MAX_SLOTS && waiting.count > 0; taken++) {
                int at = waiting.takeNext();
                int target = targets[at];
                verdicts[at] = lateVerdict(program.sizes[target]);
                if (verdicts[at] == INLINED) {
                    int node = at / MAX_SITES;
                    appendNode(target, node, at % MAX_SITES, depths[node] + 1, weights[at]);
                }
            }
        }

        private void appendNode(int method, int parent, int site, int depth, int weight) {
            int node = count;
            methods[node] = method;
            parents[node] = parent;
            origins[node] = site;
            depths[node] = depth;
            count++;
            totalSize += program.sizes[method];
            for (int own = 0; own < sitesAt(node); own++) {
                lookAtSite(node, own, weight);
            }
        }

        private void lookAtSite(int node, int site, int nodeWeight) {
            int at = slot(node, site);
            int set = program.targetsOfSite(methods[node], site);
            weights[at] = Math.min(MAX_WEIGHT, nodeWeight * program.frequencies[slot(methods[node], site)]);
            targets[at] = program.member(set, 0);
            verdicts[at] = earlyVerdict(node, Integer.bitCount(set), targets[at]);
            if (verdicts[at] == CANDIDATE) {
                waiting.insert(at, merit(weights[at], program.sizes[targets[at]]));
            }
        }

        private static int merit(int weight, int targetSize) {
            return targetSize < 1 ? 0 : MERIT_SCALE * weight / targetSize;
        }

        private int earlyVerdict(int node, int targetCount, int firstTarget) {
            if (targetCount == 0) {
                return NONE;
            }
            if (targetCount > 1) {
                return SEVERAL;
            }
            if (depths[node] >= limits.maxDepth) {
                return DEEP;
            }
            return copiesOnPath(node, firstTarget) > limits.maxRecursion ? RECURSIVE : CANDIDATE;
        }

        private int lateVerdict(int targetSize) {
            if (totalSize + targetSize > limits.budget) {
                return DEAR;
            }
            return count >= MAX_NODES ? FULL : INLINED;
        }

        private int copiesOnPath(int node, int method) {
            int copies = 0;
            int at = node;
            for (int level = 0; level <= MAX_DEPTH && at >= 0; level++) {
                if (methods[at] == method) {
                    copies++;
                }
                at = parents[at];
            }
            return copies;
        }

        long weightBetween(int first, int last) {
            long sum = 0;
            for (int node = 0; node < count; node++) {
                for (int site = 0; site < sitesAt(node); site++) {
                    int at = slot(node, site);
                    if (verdicts[at] >= first && verdicts[at] <= last) {
                        sum += weights[at];
                    }
                }
            }
            return sum;
        }

        boolean isSound(int node) {
            int parent = parents[node];
            return parent < 0 || program.targetsOfSite(methods[parent], origins[node]) == 1 << methods[node];
        }

        void cutBroken() {
            int left = numberAnew();
            totalSize = 0;
            for (int node = 0; node < count; node++) {
                if (newNumbers[node] >= 0) {
                    move(node, newNumbers[node]);
                    totalSize += program.sizes[methods[newNumbers[node]]];
                }
            }
            count = left;
        }

        /** Gives each node its new number, -1 if it goes, marks the sites that lose one, and tells how many stay. */
        private int numberAnew() {
            int left = 0;
            for (int node = 0; node < count; node++) {
                int parent = parents[node];
                boolean parentStays = parent < 0 || newNumbers[parent] >= 0;
                boolean stays = parentStays && isSound(node);
                newNumbers[node] = stays ? left : -1;
                if (stays) {
                    left++;
                } else if (parentStays) {
                    verdicts[slot(parent, origins[node])] = BROKEN;
                }
            }
            return left;
        }

        private void move(int from, int to) {
            methods[to] = methods[from];
            parents[to] = parents[from] < 0 ? -1 : newNumbers[parents[from]];
            origins[to] = origins[from];
            depths[to] = depths[from];
            for (int site = 0; site < sitesAt(to); site++) {
                verdicts[slot(to, site)] = verdicts[slot(from, site)];
                weights[slot(to, site)] = weights[slot(from, site)];
            }
        }

        long mixInto(long start) {
            long d = mix(start, count);
            for (int node = 0; node < count; node++) {
                d = mix(mix(d, methods[node]), parents[node]);
                for (int site = 0; site < sitesAt(node); site++) {
                    d = mix(mix(d, verdicts[slot(node, site)]), weights[slot(node, site)]);
                }
            }
            return d;
        }
    }
}
