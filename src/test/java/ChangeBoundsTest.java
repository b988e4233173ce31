/** Promises 29 to 31, sentence by sentence, at the last values that are allowed and the first that are not. */
public final class ChangeBoundsTest {
    private static final Class<IndexOutOfBoundsException> INDEX = IndexOutOfBoundsException.class;
    private static final Class<IllegalStateException> STATE = IllegalStateException.class;
    private static final int INLINED = 0;
    private static final int NONE = 1;
    private static final int SEVERAL = 2;
    private static final int DEEP = 3;
    private static final int FULL = 6;
    private static final int BROKEN = 7;

    public static void main(String[] args) {
        noPlan();
        holdsOfNoNode();
        nodeZeroAlwaysHolds();
        noTargetAnyMore();
        secondTarget();
        anotherTarget();
        holdsWithMoreClasses();
        holdsAgain();
        holdsWhateverItsParent();
        firstBrokenNone();
        firstBrokenOne();
        firstBrokenLast();
        firstBrokenOfSeveral();
        pruneNothing();
        pruneOnlyNode();
        pruneAllButFirst();
        pruneLastOnly();
        pruneLongLine();
        pruneBrokenAndBelow();
        pruneMarksSitesThatAreLeft();
        pruneLeavesOtherVerdicts();
        pruneNumbersAnew();
        pruneTwice();
        prunedIsNotPlannedAgain();
        Check.end();
    }

    /** A plan with 50 nodes: method 0, 8 copies of method 1 as nodes 1 to 8, and 41 of method 2. */
    private static InlinePlanner fifty() {
        InlinePlanner x = States.row(3, 1);
        for (int site = 0; site < 8; site++) {
            States.call(x, 0, 1, 1);
            States.call(x, 1, 2, 1);
        }
        x.plan(0);
        return x;
    }

    /** Methods 0 to 10, each with a call of the next; node m is the copy of method m, at the depth m. */
    private static InlinePlanner line() {
        InlinePlanner x = States.row(11, 1);
        for (int m = 0; m < 10; m++) {
            States.call(x, m, m + 1, 2);
        }
        x.setLimits(200, 10, 0);
        x.plan(0);
        return x;
    }

    /** Method m of a row gets another one below its class: calls of it have two targets then. */
    private static void override(InlinePlanner x, int m) {
        int c = x.addClass(States.owner(m));
        x.addMethod(c, m % 8, 1);
        x.setLive(c, true);
    }

    /** "Throws IllegalStateException if there is no plan", and this one first. */
    private static void noPlan() {
        InlinePlanner removed = States.smallest();
        removed.setLimits(200, 4, 1);
        for (InlinePlanner x : new InlinePlanner[] {new InlinePlanner(), States.unplanned(), removed}) {
            for (int node : new int[] {0, -1, 1, 50}) {
                Check.dueThrow(x, "holds(" + node + ")", STATE, () -> x.holds(node) ? 1 : 0);
            }
            Check.dueThrow(x, "firstBroken()", STATE, () -> x.firstBroken());
            Check.dueThrow(x, "prune()", STATE, () -> x.prune());
        }
    }

    // Promise 29.

    private static void holdsOfNoNode() {
        for (InlinePlanner x : new InlinePlanner[] {States.smallest(), line(), fifty()}) {
            int none = x.nodeCount();
            Check.due("holds(last)", true, x.holds(none - 1));
            for (int bad : new int[] {-1, none, Integer.MIN_VALUE, Integer.MAX_VALUE}) {
                Check.dueThrow(x, "holds(" + bad + ")", INDEX, () -> x.holds(bad) ? 1 : 0);
            }
        }
    }

    /** "True for node 0", though its method may be the target of nothing. */
    private static void nodeZeroAlwaysHolds() {
        InlinePlanner x = States.smallest();
        Check.due("holds(0), no live class", true, x.holds(0));
        InlinePlanner y = line();
        override(y, 0);
        Check.due("holds(0), another method for calls of it", true, y.holds(0));
        Check.due("firstBroken()", -1, y.firstBroken());
        for (int c = 1; c <= 5; c++) {
            y.setLive(c, false);
        }
        Check.due("holds(0), no live class any more", true, y.holds(0));
        Check.due("firstBroken()", 1, y.firstBroken());
    }

    // "That the only target of its site is its method."

    private static void noTargetAnyMore() {
        InlinePlanner x = line();
        x.setLive(2, false);
        for (int node = 0; node <= 10; node++) {
            // Methods 8 to 10 belong to class 2.
            Check.due("holds(" + node + ")", node < 8, x.holds(node));
        }
    }

    private static void secondTarget() {
        InlinePlanner x = line();
        override(x, 5);
        for (int node = 0; node <= 10; node++) {
            Check.due("holds(" + node + ")", node != 5, x.holds(node));
        }
    }

    private static void anotherTarget() {
        InlinePlanner x = line();
        override(x, 8);
        x.setLive(2, false);
        Check.due("targetCount(2, 0)", 1, x.targetCount(2, 0));
        Check.due("target(2, 0, 0)", 11, x.target(2, 0, 0));
        Check.due("holds(8), the only target is another one", false, x.holds(8));
        Check.due("holds(9), found for the class below", true, x.holds(9));
    }

    private static void holdsWithMoreClasses() {
        InlinePlanner x = line();
        while (x.classCount() < 16) {
            x.setLive(x.addClass(1), true);
        }
        x.addMethod(15, 0, 1);
        x.addMethod(0, 1, 1);
        Check.due("firstBroken(), the only target is as before", -1, x.firstBroken());
        x.addMethod(15, 1, 1);
        Check.due("firstBroken(), the last class has another one", 1, x.firstBroken());
    }

    private static void holdsAgain() {
        InlinePlanner x = line();
        override(x, 10);
        Check.due("holds(10)", false, x.holds(10));
        x.setLive(5, false);
        Check.due("holds(10)", true, x.holds(10));
        x.setLive(2, false);
        Check.due("holds(10)", false, x.holds(10));
        x.setLive(2, true);
        Check.due("holds(10)", true, x.holds(10));
    }

    private static void holdsWhateverItsParent() {
        InlinePlanner x = line();
        override(x, 1);
        Check.due("holds(1)", false, x.holds(1));
        for (int node = 2; node <= 10; node++) {
            Check.due("holds(" + node + ")", true, x.holds(node));
        }
    }

    // Promise 30. "The smallest node whose assumption does not hold; -1 if there is none."

    private static void firstBrokenNone() {
        Check.due("firstBroken() of one node", -1, States.smallest().firstBroken());
        Check.due("firstBroken() of 11 nodes", -1, line().firstBroken());
        Check.due("firstBroken() of 50 nodes", -1, fifty().firstBroken());
    }

    private static void firstBrokenOne() {
        InlinePlanner x = line();
        override(x, 1);
        Check.due("firstBroken()", 1, x.firstBroken());
    }

    private static void firstBrokenLast() {
        InlinePlanner x = line();
        override(x, 10);
        Check.due("firstBroken()", 10, x.firstBroken());
        InlinePlanner y = fiftyAndOne();
        Check.due("firstBroken()", -1, y.firstBroken());
        override(y, 3);
        Check.due("firstBroken()", 49, y.firstBroken());
    }

    /** A plan with 50 nodes of which only the last is a copy of method 3. */
    private static InlinePlanner fiftyAndOne() {
        InlinePlanner x = States.row(3, 1);
        x.addMethod(States.owner(3), 3, 100);
        for (int site = 0; site < 8; site++) {
            States.call(x, 0, 1, 2);
        }
        for (int site = 0; site < 5; site++) {
            States.call(x, 1, 2, 2);
        }
        States.call(x, 2, 3, 1);
        x.setLimits(5000, 10, 5);
        Check.due("plan(0)", 50, x.plan(0));
        Check.due("method(49)", 3, x.method(49));
        Check.due("method(48)", 2, x.method(48));
        return x;
    }

    private static void firstBrokenOfSeveral() {
        InlinePlanner x = line();
        override(x, 9);
        Check.due("firstBroken()", 9, x.firstBroken());
        override(x, 4);
        Check.due("firstBroken()", 4, x.firstBroken());
        override(x, 6);
        Check.due("firstBroken()", 4, x.firstBroken());
    }

    // Promise 31.

    private static void pruneNothing() {
        InlinePlanner x = line();
        long before = x.digest();
        Check.due("prune()", 0, x.prune());
        Check.due("digest()", before, x.digest());
        Check.due("size()", 11, x.size());
        InlinePlanner y = fifty();
        before = y.digest();
        Check.due("prune() of 50 nodes", 0, y.prune());
        Check.due("digest()", before, y.digest());
    }

    private static void pruneOnlyNode() {
        InlinePlanner x = States.smallest();
        Check.due("prune()", 0, x.prune());
        Check.due("hasPlan()", true, x.hasPlan());
        Check.due("nodeCount()", 1, x.nodeCount());
        Check.due("size()", 1, x.size());
    }

    private static void pruneAllButFirst() {
        InlinePlanner x = fifty();
        override(x, 1);
        Check.due("prune()", 49, x.prune());
        Check.due("hasPlan()", true, x.hasPlan());
        Check.due("nodeCount()", 1, x.nodeCount());
        Check.due("size()", 1, x.size());
        Check.dueVerdicts(x, 0, BROKEN, BROKEN, BROKEN, BROKEN, BROKEN, BROKEN, BROKEN, BROKEN);
        Check.due("weightOf(6), those sites are gone", 0, x.weightOf(FULL));
        Check.dueDouble("share()", 0.0, x.share());
        Check.dueThrow(x, "method(1)", INDEX, () -> x.method(1));
    }

    private static void pruneLastOnly() {
        InlinePlanner x = fiftyAndOne();
        override(x, 3);
        Check.due("prune()", 1, x.prune());
        Check.due("nodeCount()", 49, x.nodeCount());
        Check.due("size()", 49, x.size());
        Check.due("method(48)", 2, x.method(48));
        Check.dueThrow(x, "method(49)", INDEX, () -> x.method(49));
        Check.due("weightOf(7)", 4, x.weightOf(BROKEN));
        Check.due("weightOf(6), as before", 39 * 4, x.weightOf(FULL));
        // Nodes 2 and 3 are the first copies of method 2.
        Check.dueVerdicts(x, 2, BROKEN);
        Check.dueVerdicts(x, 3, FULL);
    }

    /** "And all nodes that have such a node as an ancestor", as far as from the first to the last depth. */
    private static void pruneLongLine() {
        for (int m = 1; m <= 10; m++) {
            InlinePlanner x = line();
            override(x, m);
            Check.due("prune() of " + m, 11 - m, x.prune());
            Check.due("nodeCount()", m, x.nodeCount());
            for (int node = 0; node < m; node++) {
                Check.dueVerdicts(x, node, node < m - 1 ? INLINED : BROKEN);
            }
            Check.due("weightOf(7)", 1 << m, x.weightOf(BROKEN));
        }
    }

    private static void pruneBrokenAndBelow() {
        InlinePlanner x = line();
        override(x, 3);
        override(x, 4);
        override(x, 10);
        Check.due("prune(), each node once", 8, x.prune());
        Check.due("nodeCount()", 3, x.nodeCount());
        Check.due("firstBroken()", -1, x.firstBroken());
    }

    /** "The sites for which removed nodes were made, as far as they are left, get the verdict 7 broken." */
    private static void pruneMarksSitesThatAreLeft() {
        InlinePlanner x = line();
        override(x, 3);
        override(x, 5);
        x.prune();
        Check.due("weightOf(7), one site alone is left", 8, x.weightOf(BROKEN));
        Check.due("weightOf(0)", 2 + 4, x.weightOf(INLINED));
        Check.due("weight(2, 0), as before", 8, x.weight(2, 0));
        Check.dueVerdicts(x, 2, BROKEN);
    }

    /** Sites for which no node was made keep their verdicts, though their targets are others now. */
    private static void pruneLeavesOtherVerdicts() {
        InlinePlanner x = States.row(4, 1);
        x.addMethod(x.addClass(1), 2, 1);
        x.setLive(5, true);
        x.addCall(0, 1, 7, 1);
        x.addCall(0, 1, 2, 2);
        States.call(x, 0, 1, 3);
        States.call(x, 0, 3, 4);
        States.call(x, 1, 3, 5);
        x.setLimits(200, 1, 1);
        x.plan(0);
        Check.dueVerdicts(x, 0, NONE, SEVERAL, INLINED, INLINED);
        Check.dueVerdicts(x, 2, DEEP);
        x.addMethod(1, 7, 1);
        x.addMethod(5, 3, 1);
        Check.due("prune()", 1, x.prune());
        Check.dueVerdicts(x, 0, NONE, SEVERAL, INLINED, BROKEN);
        Check.dueVerdicts(x, 1, DEEP);
        x.setLive(1, false);
        x.setLive(5, false);
        Check.due("prune()", 1, x.prune());
        Check.dueVerdicts(x, 0, NONE, SEVERAL, BROKEN, BROKEN);
        Check.due("weight(0, 2)", 3, x.weight(0, 2));
        Check.due("weight(0, 3)", 4, x.weight(0, 3));
    }

    /** "The nodes that are left are numbered anew, in the same order." */
    private static void pruneNumbersAnew() {
        InlinePlanner x = States.row(7, 1);
        // Nodes 1 to 3 are methods 1 to 3, nodes 4 to 6 are methods 4 to 6, called by 1 to 3.
        for (int m = 1; m <= 3; m++) {
            States.call(x, 0, m, 20);
            States.call(x, m, m + 3, 1);
            x.addCall(m, 0, 7, m);
        }
        Check.due("plan(0)", 7, x.plan(0));
        Check.dueNode(x, 6, 6, 3, 0, 2);
        override(x, 2);
        Check.due("prune()", 2, x.prune());
        Check.due("nodeCount()", 5, x.nodeCount());
        Check.due("size()", 5, x.size());
        Check.dueNode(x, 0, 0, -1, -1, 0);
        Check.dueNode(x, 1, 1, 0, 0, 1);
        Check.dueNode(x, 2, 3, 0, 2, 1);
        Check.dueNode(x, 3, 4, 1, 0, 2);
        Check.dueNode(x, 4, 6, 2, 0, 2);
        Check.dueVerdicts(x, 0, INLINED, BROKEN, INLINED);
        Check.dueVerdicts(x, 2, INLINED, NONE);
        Check.due("weight(2, 1), moved with its node", 60, x.weight(2, 1));
        Check.dueThrow(x, "method(5)", INDEX, () -> x.method(5));
        override(x, 6);
        Check.due("firstBroken(), with the new number", 4, x.firstBroken());
        Check.due("prune()", 1, x.prune());
        Check.dueVerdicts(x, 2, BROKEN, NONE);
    }

    private static void pruneTwice() {
        InlinePlanner x = line();
        override(x, 8);
        Check.due("prune()", 3, x.prune());
        long before = x.digest();
        Check.due("prune() again", 0, x.prune());
        Check.due("digest()", before, x.digest());
        Check.due("firstBroken()", -1, x.firstBroken());
        override(x, 2);
        Check.due("prune() of what is left", 6, x.prune());
        Check.due("nodeCount()", 2, x.nodeCount());
    }

    private static void prunedIsNotPlannedAgain() {
        InlinePlanner x = line();
        override(x, 1);
        Check.due("prune()", 10, x.prune());
        x.setLive(5, false);
        Check.dueVerdicts(x, 0, BROKEN);
        Check.due("nodeCount()", 1, x.nodeCount());
        Check.due("plan(0)", 11, x.plan(0));
        Check.dueVerdicts(x, 0, INLINED);
        Check.due("weightOf(7)", 0, x.weightOf(BROKEN));
    }
}
