/** Promise 16 and how a plan is made, sentence by sentence, at the last values that are allowed and the first not. */
public final class PlanBoundsTest {
    private static final Class<IndexOutOfBoundsException> INDEX = IndexOutOfBoundsException.class;
    private static final Class<IllegalArgumentException> ARGUMENT = IllegalArgumentException.class;
    private static final Class<IllegalStateException> STATE = IllegalStateException.class;
    private static final int INLINED = 0;
    private static final int NONE = 1;
    private static final int SEVERAL = 2;
    private static final int DEEP = 3;
    private static final int RECURSIVE = 4;
    private static final int DEAR = 5;
    private static final int FULL = 6;
    private static final int MOST = 1000000;

    public static void main(String[] args) {
        methodOfPlan();
        methodWithoutSites();
        nodeZero();
        weightBelowTheMost();
        weightJustTheMost();
        weightAboveTheMost();
        weightBelowTheMostWeight();
        noTarget();
        oneTargetOfManyClasses();
        twoTargets();
        depthOfNodeAndLimit();
        recursionAndLimit();
        recursionThroughAnother();
        recursionBesideNotCounted();
        noneComesFirst();
        severalComesSecond();
        deepComesThird();
        recursiveComesFourth();
        greatestMerit();
        meritRoundedDown();
        equalMeritOfCappedWeights();
        equalMeritSmallerNode();
        equalMeritSmallerSite();
        newCandidateIsNext();
        budgetJustReached();
        leastBudget();
        greatestBudget();
        firstBudget();
        nodeZeroBeyondBudget();
        behindDearComesSmaller();
        justFiftyNodes();
        fiftyFirstNode();
        fourHundredCandidates();
        dearOrFull();
        removedByAddCall();
        keptByRefusedCalls();
        keptByClassesAndMethods();
        anotherPlanInItsPlace();
        Check.end();
    }

    /** Methods 0 to the number of frequencies, each with one call of the next; all of size 1. */
    private static InlinePlanner line(int... frequencies) {
        InlinePlanner x = States.row(frequencies.length + 1, 1);
        for (int m = 0; m < frequencies.length; m++) {
            States.call(x, m, m + 1, frequencies[m]);
        }
        x.setLimits(5000, 10, 5);
        return x;
    }

    /** Method 0 calls method 1 the first number of times, which calls method 2 the second number of times. */
    private static InlinePlanner tree(int size, int first, int second) {
        InlinePlanner x = States.row(3, size);
        for (int site = 0; site < first; site++) {
            States.call(x, 0, 1, 1);
        }
        for (int site = 0; site < second; site++) {
            States.call(x, 1, 2, 1);
        }
        return x;
    }

    private static void methodOfPlan() {
        InlinePlanner none = new InlinePlanner();
        Check.dueThrow(none, "plan(0) without a method", INDEX, () -> none.plan(0));
        InlinePlanner x = States.row(30, 1);
        Check.due("plan(0)", 1, x.plan(0));
        Check.due("plan(29)", 1, x.plan(29));
        Check.due("method(0)", 29, x.method(0));
        Check.dueThrow(x, "plan(30)", INDEX, () -> x.plan(30));
        Check.dueThrow(x, "plan(-1)", INDEX, () -> x.plan(-1));
        Check.due("method(0), the plan is as before", 29, x.method(0));
    }

    private static void methodWithoutSites() {
        InlinePlanner x = States.flat(7);
        Check.due("plan(0)", 1, x.plan(0));
        Check.due("size()", 7, x.size());
        Check.due("siteCount(0)", 0, x.siteCount(0));
    }

    /** "Node 0 has this method, the weight 1, the depth 0 and no parent." */
    private static void nodeZero() {
        InlinePlanner x = States.flat(1, 1);
        x.addCall(1, 0, 7, 1);
        x.addCall(1, 0, 7, 20);
        x.plan(1);
        Check.dueNode(x, 0, 1, -1, -1, 0);
        Check.due("weight(0, 0)", 1, x.weight(0, 0));
        Check.due("weight(0, 1)", 20, x.weight(0, 1));
    }

    // "The weight of a site is the weight of its node times its frequency, at most 1000000."

    private static void weightBelowTheMost() {
        // The greatest product below 1000000 that frequencies have.
        InlinePlanner x = line(6, 9, 9, 11, 11, 17);
        Check.due("plan(0)", 7, x.plan(0));
        int[] want = {6, 54, 486, 5346, 58806, 999702};
        for (int node = 0; node < 6; node++) {
            Check.due("weight(" + node + ", 0)", want[node], x.weight(node, 0));
        }
    }

    private static void weightJustTheMost() {
        InlinePlanner x = line(10, 10, 10, 10, 10, 10, 1);
        x.plan(0);
        Check.due("weight(4, 0)", 100000, x.weight(4, 0));
        Check.due("weight(5, 0)", MOST, x.weight(5, 0));
        Check.due("weight(6, 0), of the node that has it", MOST, x.weight(6, 0));
    }

    private static void weightAboveTheMost() {
        // The least product above 1000000 that frequencies have is 1000188.
        InlinePlanner x = line(14, 14, 7, 9, 9, 9, 1);
        x.plan(0);
        Check.due("weight(4, 0)", 111132, x.weight(4, 0));
        Check.due("weight(5, 0)", MOST, x.weight(5, 0));
        Check.due("weight(6, 0)", MOST, x.weight(6, 0));
    }

    private static void weightBelowTheMostWeight() {
        InlinePlanner x = line(20, 20, 20, 20, 20, 20, 20, 20, 20, 20, 20);
        Check.due("plan(0)", 11, x.plan(0));
        int[] want = {20, 400, 8000, 160000, MOST, MOST, MOST, MOST, MOST, MOST, MOST};
        for (int node = 0; node < 11; node++) {
            Check.due("weight(" + node + ", 0)", want[node], x.weight(node, 0));
        }
    }

    // "1 none: there is no target. 2 several: there are two or more targets."

    private static void noTarget() {
        InlinePlanner x = States.flat(1, 1);
        x.addClass(0);
        x.addCall(0, 0, 7, 1);
        x.addCall(0, 1, 1, 1);
        x.addCall(0, 0, 1, 1);
        x.plan(0);
        Check.dueVerdicts(x, 0, NONE, NONE, INLINED);
        x.setLive(0, false);
        x.plan(0);
        Check.dueVerdicts(x, 0, NONE, NONE, NONE);
        x.setLive(1, true);
        x.plan(0);
        Check.dueVerdicts(x, 0, NONE, INLINED, INLINED);
    }

    private static void oneTargetOfManyClasses() {
        InlinePlanner x = States.fan();
        x.addMethod(0, 0, 1);
        x.addMethod(0, 1, 1);
        x.addCall(0, 0, 1, 1);
        for (int c = 0; c < 16; c++) {
            x.setLive(c, true);
            x.plan(0);
            Check.dueVerdicts(x, 0, INLINED);
        }
    }

    private static void twoTargets() {
        InlinePlanner x = States.fan();
        x.addMethod(0, 0, 1);
        x.setLive(0, true);
        for (int c = 0; c < 16; c++) {
            x.addMethod(c, 1, 1);
        }
        x.addCall(0, 0, 1, 1);
        x.plan(0);
        Check.dueVerdicts(x, 0, INLINED);
        for (int c = 1; c < 16; c++) {
            x.setLive(c, true);
            Check.due("plan(0) with targets: " + (c + 1), 1, x.plan(0));
            Check.dueVerdicts(x, 0, SEVERAL);
        }
    }

    /** "3 deep: the depth of the node is not less than the limit for the depth." */
    private static void depthOfNodeAndLimit() {
        InlinePlanner x = line(1, 1, 1, 1, 1, 1, 1, 1, 1, 1, 1, 1);
        for (int limit = 0; limit <= 10; limit++) {
            x.setLimits(5000, limit, 0);
            Check.due("plan(0) with the depth " + limit, limit + 1, x.plan(0));
            for (int node = 0; node <= limit; node++) {
                Check.due("depth(" + node + ")", node, x.depth(node));
                Check.dueVerdicts(x, node, node < limit ? INLINED : DEEP);
            }
        }
    }

    /** "4 recursive: of the node and its ancestors, more have the target than the limit for the recursion says." */
    private static void recursionAndLimit() {
        InlinePlanner x = States.flat(1);
        x.addCall(0, 0, 0, 1);
        for (int limit = 0; limit <= 5; limit++) {
            x.setLimits(5000, 10, limit);
            Check.due("plan(0) with the recursion " + limit, limit + 1, x.plan(0));
            for (int node = 0; node <= limit; node++) {
                Check.dueVerdicts(x, node, node < limit ? INLINED : RECURSIVE);
            }
        }
    }

    private static void recursionThroughAnother() {
        InlinePlanner x = States.flat(1, 1);
        x.addCall(0, 0, 1, 1);
        x.addCall(1, 0, 0, 1);
        for (int limit = 0; limit <= 4; limit++) {
            x.setLimits(5000, 10, limit);
            // Methods 0 and 1 take turns until method 0, which began, is there once more than the limit says.
            Check.due("plan(0) with the recursion " + limit, 2 * limit + 2, x.plan(0));
            Check.dueVerdicts(x, 2 * limit, INLINED);
            Check.dueVerdicts(x, 2 * limit + 1, RECURSIVE);
        }
        x.setLimits(5000, 10, 5);
        Check.due("plan(0) with the recursion 5, which the depth ends", 11, x.plan(0));
        Check.dueVerdicts(x, 10, DEEP);
    }

    /** The copies of methods 1 and 2 that are there already when a node is made are not its ancestors. */
    private static void recursionBesideNotCounted() {
        InlinePlanner x = States.flat(1, 1, 1);
        for (int site = 0; site < 8; site++) {
            x.addCall(0, 0, 1, 1);
        }
        x.addCall(1, 0, 2, 20);
        x.setLimits(5000, 10, 0);
        Check.due("plan(0), eight copies of each side by side", 17, x.plan(0));
        Check.dueVerdicts(x, 0, INLINED, INLINED, INLINED, INLINED, INLINED, INLINED, INLINED, INLINED);
        for (int node = 1; node < 17; node += 2) {
            Check.dueNode(x, node + 1, 2, node, 0, 2);
        }
    }

    // "A site gets a verdict at once if one of the following applies, the first one of them."

    private static void noneComesFirst() {
        InlinePlanner x = States.flat(100);
        x.addCall(0, 0, 7, 1);
        x.setLimits(1, 0, 0);
        x.plan(0);
        Check.dueVerdicts(x, 0, NONE);
    }

    /** Method 0 calls itself, by a selector for which a class below has another method, and method 2. */
    private static InlinePlanner twoForItself() {
        InlinePlanner x = States.flat(100);
        x.addMethod(x.addClass(0), 0, 1);
        x.setLive(1, true);
        x.addMethod(0, 2, 1);
        x.addCall(0, 0, 0, 1);
        x.addCall(0, 0, 2, 1);
        return x;
    }

    private static void severalComesSecond() {
        InlinePlanner x = twoForItself();
        x.setLimits(1, 0, 0);
        x.plan(0);
        Check.dueVerdicts(x, 0, SEVERAL, DEEP);
        x.setLimits(1, 1, 0);
        x.plan(0);
        Check.dueVerdicts(x, 0, SEVERAL, DEAR);
    }

    private static void deepComesThird() {
        InlinePlanner x = States.flat(100);
        x.addCall(0, 0, 0, 1);
        x.setLimits(1, 0, 0);
        x.plan(0);
        Check.dueVerdicts(x, 0, DEEP);
    }

    private static void recursiveComesFourth() {
        InlinePlanner x = States.flat(100);
        x.addCall(0, 0, 0, 1);
        x.setLimits(1, 1, 0);
        x.plan(0);
        Check.dueVerdicts(x, 0, RECURSIVE);
        x.setLimits(1, 1, 1);
        x.plan(0);
        Check.dueVerdicts(x, 0, DEAR);
    }

    // "Its merit is 1000 * its weight, divided by the size of its target and rounded down."

    /** The greatest merit there is, 1000000000, comes before half of it. */
    private static void greatestMerit() {
        InlinePlanner x = heavy();
        x.plan(0);
        Check.due("weight(6, 0)", MOST, x.weight(6, 0));
        Check.due("weight(6, 1)", MOST, x.weight(6, 1));
        Check.dueNode(x, 7, 8, 6, 1, 7);
        Check.dueNode(x, 8, 7, 6, 0, 7);
    }

    /** Method 6 has the weight 1000000 in a plan for 0, and calls 7, of size 2, and 8, of size 1. */
    private static InlinePlanner heavy() {
        InlinePlanner x = States.row(7, 1);
        x.addMethod(States.owner(7), 7, 2);
        x.addMethod(States.owner(8), 0, 1);
        for (int m = 0; m < 6; m++) {
            States.call(x, m, m + 1, 10);
        }
        States.call(x, 6, 7, 20);
        States.call(x, 6, 8, 20);
        x.setLimits(5000, 10, 5);
        return x;
    }

    private static void meritRoundedDown() {
        // For sizes 91 to 100 and the weight 1 it is 10, for 90 it is 11.
        for (int size = 90; size <= 100; size++) {
            InlinePlanner x = States.flat(1, 100, size);
            x.addCall(0, 0, 1, 1);
            x.addCall(0, 0, 2, 1);
            x.setLimits(5000, 4, 1);
            x.plan(0);
            Check.due("method(1) beside one of size " + size, size == 90 ? 2 : 1, x.method(1));
        }
    }

    /** Weights that are cut to 1000000 are equal, and so are the merits. */
    private static void equalMeritOfCappedWeights() {
        InlinePlanner x = line(20, 20, 20, 20, 20);
        x.addMethod(4, 7, 1);
        States.call(x, 5, 0, 1);
        x.addCall(5, 4, 7, 20);
        x.setLimits(5000, 6, 1);
        x.plan(0);
        Check.due("weight(5, 0)", MOST, x.weight(5, 0));
        Check.due("weight(5, 1)", MOST, x.weight(5, 1));
        Check.dueNode(x, 6, 0, 5, 0, 6);
        Check.dueNode(x, 7, 6, 5, 1, 6);
    }

    /** "Of equal ones, the one of the node with the smaller number", even if its site has a greater one. */
    private static void equalMeritSmallerNode() {
        InlinePlanner x = States.row(4, 10);
        States.call(x, 0, 1, 20);
        for (int site = 1; site < 8; site++) {
            States.call(x, 0, 3, 20);
        }
        States.call(x, 1, 2, 1);
        x.setLimits(5000, 4, 1);
        Check.due("plan(0)", 10, x.plan(0));
        for (int node = 1; node <= 8; node++) {
            Check.due("siteOf(" + node + ")", node - 1, x.siteOf(node));
        }
        Check.dueNode(x, 9, 2, 1, 0, 2);
    }

    /** "Of those, the one with the smaller number of the site." */
    private static void equalMeritSmallerSite() {
        InlinePlanner x = States.row(9, 10);
        for (int site = 0; site < 8; site++) {
            States.call(x, 0, 8 - site, 5);
        }
        x.plan(0);
        for (int node = 1; node <= 8; node++) {
            Check.dueNode(x, node, 9 - node, 0, node - 1, 1);
        }
    }

    /** "Candidates of nodes that are made meanwhile are among them." */
    private static void newCandidateIsNext() {
        InlinePlanner x = States.row(5, 10);
        States.call(x, 0, 1, 20);
        States.call(x, 0, 2, 19);
        States.call(x, 1, 3, 1);
        States.call(x, 3, 4, 1);
        x.plan(0);
        // The merits 2000 and 1900, then 2000 and 2000 again of the new nodes.
        Check.dueNode(x, 1, 1, 0, 0, 1);
        Check.dueNode(x, 2, 3, 1, 0, 2);
        Check.dueNode(x, 3, 4, 2, 0, 3);
        Check.dueNode(x, 4, 2, 0, 1, 1);
    }

    // "If the size of the plan plus the size of the target is greater than the budget, the verdict 5 dear."

    private static void budgetJustReached() {
        InlinePlanner x = States.flat(10, 20, 30);
        x.addCall(0, 0, 1, 20);
        x.addCall(0, 0, 2, 1);
        int[] budgets = {29, 30, 59, 60, 61};
        int[] nodes = {1, 2, 2, 3, 3};
        for (int k = 0; k < budgets.length; k++) {
            x.setLimits(budgets[k], 4, 1);
            Check.due("plan(0) with the budget " + budgets[k], nodes[k], x.plan(0));
            Check.dueVerdicts(x, 0, nodes[k] > 1 ? INLINED : DEAR, nodes[k] > 2 ? INLINED : DEAR);
        }
    }

    private static void leastBudget() {
        InlinePlanner x = States.flat(1, 1);
        x.addCall(0, 0, 1, 20);
        x.setLimits(1, 10, 5);
        Check.due("plan(0) with the budget 1", 1, x.plan(0));
        Check.dueVerdicts(x, 0, DEAR);
        x.setLimits(2, 10, 5);
        Check.due("plan(0) with the budget 2", 2, x.plan(0));
        Check.dueVerdicts(x, 0, INLINED);
    }

    /** 50 nodes of size 100 are just as large as the greatest budget. */
    private static void greatestBudget() {
        InlinePlanner x = tree(100, 7, 6);
        x.setLimits(5000, 10, 5);
        Check.due("plan(0) with the budget 5000", 50, x.plan(0));
        Check.due("size()", 5000, x.size());
        Check.due("weightOf(5)", 0, x.weightOf(DEAR));
        x.setLimits(4999, 10, 5);
        Check.due("plan(0) with the budget 4999", 49, x.plan(0));
        Check.due("size()", 4900, x.size());
        Check.due("weightOf(5)", 1, x.weightOf(DEAR));
        States.call(x, 2, 0, 1);
        x.setLimits(5000, 2, 5);
        Check.due("plan(0), and one site more in the last ones", 50, x.plan(0));
        Check.due("weightOf(3)", 42, x.weightOf(DEEP));
    }

    private static void firstBudget() {
        InlinePlanner x = States.flat(100, 100, 1);
        x.addCall(0, 0, 1, 20);
        x.addCall(1, 0, 2, 1);
        Check.due("plan(0), 200 at first", 2, x.plan(0));
        Check.due("size()", 200, x.size());
        Check.dueVerdicts(x, 0, INLINED);
        Check.dueVerdicts(x, 1, DEAR);
    }

    private static void nodeZeroBeyondBudget() {
        InlinePlanner x = States.flat(100, 1);
        x.addCall(0, 0, 1, 1);
        x.setLimits(1, 4, 1);
        Check.due("plan(0)", 1, x.plan(0));
        Check.due("size()", 100, x.size());
        Check.dueVerdicts(x, 0, DEAR);
    }

    private static void behindDearComesSmaller() {
        InlinePlanner x = States.flat(10, 31, 30);
        x.addCall(0, 0, 1, 20);
        x.addCall(0, 0, 2, 1);
        x.setLimits(40, 4, 1);
        Check.due("plan(0)", 2, x.plan(0));
        Check.dueVerdicts(x, 0, DEAR, INLINED);
    }

    // "Otherwise, if the plan has 50 nodes, it gets the verdict 6 full."

    private static void justFiftyNodes() {
        InlinePlanner x = tree(1, 7, 6);
        x.setLimits(5000, 10, 5);
        Check.due("plan(0)", 50, x.plan(0));
        Check.due("weightOf(0)", 49, x.weightOf(INLINED));
        Check.due("weightOf(6)", 0, x.weightOf(FULL));
    }

    private static void fiftyFirstNode() {
        InlinePlanner x = tree(1, 7, 6);
        States.call(x, 0, 2, 1);
        x.setLimits(5000, 10, 5);
        Check.due("plan(0)", 50, x.plan(0));
        Check.due("weightOf(0)", 49, x.weightOf(INLINED));
        Check.due("weightOf(6)", 1, x.weightOf(FULL));
        // Node 0 has the smallest number, so the last one of the last node of method 1 is left over.
        Check.dueVerdicts(x, 0, INLINED, INLINED, INLINED, INLINED, INLINED, INLINED, INLINED, INLINED);
        Check.dueVerdicts(x, 7, INLINED, INLINED, INLINED, INLINED, INLINED, FULL);
        Check.dueThrow(x, "method(50)", INDEX, () -> x.method(50));
    }

    /** 50 nodes with 8 sites each, all of which are candidates: each of them gets a verdict. */
    private static void fourHundredCandidates() {
        InlinePlanner x = tree(1, 8, 8);
        x.addMethod(4, 7, 1);
        for (int site = 0; site < 8; site++) {
            x.addCall(2, 4, 7, 1);
        }
        x.setLimits(5000, 10, 5);
        Check.due("plan(0)", 50, x.plan(0));
        Check.due("weightOf(0)", 49, x.weightOf(INLINED));
        Check.due("weightOf(6)", 351, x.weightOf(FULL));
        Check.due("verdict(49, 7), the last one of them", FULL, x.verdict(49, 7));
        x.setLimits(1, 10, 5);
        Check.due("plan(0)", 1, x.plan(0));
        Check.due("weightOf(5)", 8, x.weightOf(DEAR));
    }

    /** With 50 nodes a candidate that just fits into the budget is full, and one that does not fit is dear. */
    private static void dearOrFull() {
        InlinePlanner x = tree(2, 7, 6);
        x.addMethod(4, 7, 30);
        x.addMethod(4, 6, 31);
        x.addCall(0, 4, 7, 1);
        x.addCall(1, 4, 6, 1);
        x.setLimits(130, 10, 5);
        Check.due("plan(0)", 50, x.plan(0));
        Check.due("size()", 100, x.size());
        Check.due("verdict(0, 7), 100 + 30", FULL, x.verdict(0, 7));
        for (int node = 1; node <= 7; node++) {
            Check.due("verdict(" + node + ", 6), 100 + 31", DEAR, x.verdict(node, 6));
        }
        x.setLimits(129, 10, 5);
        x.plan(0);
        Check.due("verdict(0, 7), 100 + 30", DEAR, x.verdict(0, 7));
        x.setLimits(131, 10, 5);
        x.plan(0);
        Check.due("verdict(7, 6), 100 + 31", FULL, x.verdict(7, 6));
    }

    // "It is removed by each call of addCall or setLimits that throws no exception."

    private static void removedByAddCall() {
        InlinePlanner x = States.flat(1, 1);
        for (int site = 0; site < 8; site++) {
            x.plan(0);
            Check.due("hasPlan()", true, x.hasPlan());
            x.addCall(site % 2, 0, 7, 1);
            Check.due("hasPlan() behind addCall", false, x.hasPlan());
        }
        x.addCall(1, 0, 7, 1);
        Check.due("hasPlan() behind addCall without a plan", false, x.hasPlan());
        Check.dueThrow(x, "nodeCount()", STATE, () -> x.nodeCount());
    }

    private static void keptByRefusedCalls() {
        InlinePlanner x = States.flat(1);
        for (int site = 0; site < 8; site++) {
            x.addCall(0, 0, 0, 1);
        }
        x.plan(0);
        Check.dueThrow(x, "addCall(1, 0, 0, 1)", INDEX, () -> x.addCall(1, 0, 0, 1));
        Check.due("hasPlan()", true, x.hasPlan());
        Check.dueThrow(x, "addCall(0, 0, 0, 21)", ARGUMENT, () -> x.addCall(0, 0, 0, 21));
        Check.due("hasPlan()", true, x.hasPlan());
        Check.dueThrow(x, "addCall(0, 0, 0, 1), the 9th", STATE, () -> x.addCall(0, 0, 0, 1));
        Check.due("hasPlan()", true, x.hasPlan());
        Check.dueThrow(x, "plan(1)", INDEX, () -> x.plan(1));
        Check.due("hasPlan()", true, x.hasPlan());
    }

    /** "But not by changes of classes and methods: sites then keep their verdicts and weights." */
    private static void keptByClassesAndMethods() {
        InlinePlanner x = States.planned();
        int nodes = x.nodeCount();
        long[] weights = new long[8];
        for (int verdict = 0; verdict < 8; verdict++) {
            weights[verdict] = x.weightOf(verdict);
        }
        while (x.classCount() < 16) {
            x.setLive(x.addClass(0), true);
        }
        Check.dueThrow(x, "addClass(0)", STATE, () -> x.addClass(0));
        for (int c = 4; x.methodCount() < 30; c++) {
            x.addMethod(c, 0, 1);
            x.addMethod(c, 1, 1);
            x.addMethod(c, 2, 1);
        }
        for (int c = 0; c < 4; c++) {
            x.setLive(c, c == 3);
        }
        Check.due("methodCount()", 30, x.methodCount());
        Check.due("hasPlan()", true, x.hasPlan());
        Check.due("nodeCount()", nodes, x.nodeCount());
        for (int verdict = 0; verdict < 8; verdict++) {
            Check.due("weightOf(" + verdict + ")", weights[verdict], x.weightOf(verdict));
        }
    }

    /** "The plan that was made last is kept": nothing of the one before is left, though it was larger. */
    private static void anotherPlanInItsPlace() {
        InlinePlanner x = tree(1, 8, 8);
        x.setLimits(5000, 10, 5);
        Check.due("plan(0)", 50, x.plan(0));
        Check.due("plan(2)", 1, x.plan(2));
        Check.due("size()", 1, x.size());
        Check.due("weightOf(0)", 0, x.weightOf(INLINED));
        Check.due("weightOf(6)", 0, x.weightOf(FULL));
        Check.dueThrow(x, "method(1)", INDEX, () -> x.method(1));
        Check.dueThrow(x, "verdict(0, 0)", INDEX, () -> x.verdict(0, 0));
        Check.due("plan(1)", 9, x.plan(1));
        Check.due("plan(0)", 50, x.plan(0));
        Check.due("plan(0) once more", 50, x.plan(0));
        Check.due("size()", 50, x.size());
    }
}
