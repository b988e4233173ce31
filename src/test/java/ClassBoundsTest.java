/** Promises 1 to 7, sentence by sentence, at the last values that are allowed and the first that are not. */
public final class ClassBoundsTest {
    private static final Class<IndexOutOfBoundsException> INDEX = IndexOutOfBoundsException.class;
    private static final Class<IllegalStateException> STATE = IllegalStateException.class;

    public static void main(String[] args) {
        newObjectHasOneClass();
        newObjectHasNoMethods();
        newObjectHasNoPlan();
        newObjectHasTheFirstLimits();
        newObjectsAreApart();
        firstAndLastClass();
        seventeenthClass();
        parentOfNewClass();
        newClassIsNotLive();
        liveAsBefore();
        liveFirstAndLastClass();
        liveOneAlone();
        countsOneToSixteen();
        parentsOfAll();
        parentOfNoClass();
        belowItself();
        belowInChain();
        belowInFan();
        belowNoClass();
        noneLiveBelow();
        allLiveBelow();
        liveAboveOrBeside();
        liveBelowNoClass();
        Check.end();
    }

    // Promise 1. "Creates a planner with class 0, without methods and without a plan."

    private static void newObjectHasOneClass() {
        InlinePlanner x = new InlinePlanner();
        Check.due("classCount()", 1, x.classCount());
        Check.due("parent(0)", -1, x.parent(0));
        Check.dueThrow(x, "parent(1)", INDEX, () -> x.parent(1));
        Check.due("setLive(0, true), it is not live at first", false, x.setLive(0, true));
    }

    private static void newObjectHasNoMethods() {
        InlinePlanner x = new InlinePlanner();
        x.setLive(0, true);
        Check.due("methodCount()", 0, x.methodCount());
        for (int selector = 0; selector < 8; selector++) {
            Check.due("found(0, " + selector + ")", -1, x.found(0, selector));
            Check.due("targetCount(0, " + selector + ")", 0, x.targetCount(0, selector));
        }
        Check.dueThrow(x, "reached(0)", INDEX, () -> x.reached(0));
        Check.dueThrow(x, "plan(0)", INDEX, () -> x.plan(0));
        Check.dueThrow(x, "addCall(0, 0, 0, 1)", INDEX, () -> x.addCall(0, 0, 0, 1));
    }

    private static void newObjectHasNoPlan() {
        InlinePlanner x = new InlinePlanner();
        Check.due("hasPlan()", false, x.hasPlan());
        Check.dueThrow(x, "nodeCount()", STATE, () -> x.nodeCount());
        Check.dueThrow(x, "method(0)", STATE, () -> x.method(0));
    }

    private static void newObjectHasTheFirstLimits() {
        Check.due("setLimits(200, 4, 1)", false, new InlinePlanner().setLimits(200, 4, 1));
        int[][] others = {{199, 4, 1}, {201, 4, 1}, {200, 3, 1}, {200, 5, 1}, {200, 4, 0}, {200, 4, 2}};
        for (int[] o : others) {
            Check.due(Calls.text(Calls.SET_LIMITS, o[0], o[1], o[2]), true,
                new InlinePlanner().setLimits(o[0], o[1], o[2]));
        }
    }

    private static void newObjectsAreApart() {
        InlinePlanner full = States.full();
        InlinePlanner x = new InlinePlanner();
        Check.due("digest() of a new object beside a full one", Check.digestOf(1, -1, 0, 0, 200, 4, 1), x.digest());
        long before = full.digest();
        x.setLive(0, true);
        x.addMethod(0, 0, 1);
        x.plan(0);
        Check.due("digest() of the full one", before, full.digest());
    }

    // Promise 2. "There are at most 16 classes, numbered from 0 in the order of their creation."

    private static void firstAndLastClass() {
        InlinePlanner x = new InlinePlanner();
        for (int c = 1; c < 16; c++) {
            Check.due("addClass(0)", c, x.addClass(0));
        }
        Check.due("classCount()", 16, x.classCount());
    }

    private static void seventeenthClass() {
        InlinePlanner x = States.fan();
        Check.dueThrow(x, "addClass(0), the 17th", STATE, () -> x.addClass(0));
        Check.dueThrow(x, "addClass(15), the 17th", STATE, () -> x.addClass(15));
        Check.dueThrow(x, "addClass(16), the 17th", INDEX, () -> x.addClass(16));
        Check.dueThrow(x, "addClass(-1), the 17th", INDEX, () -> x.addClass(-1));
        Check.due("classCount()", 16, x.classCount());
    }

    /** "Every other class has a parent, which was created earlier": none is its own parent. */
    private static void parentOfNewClass() {
        InlinePlanner x = new InlinePlanner();
        for (int c = 1; c < 16; c++) {
            int own = c;
            Check.dueThrow(x, "addClass(" + c + "), itself", INDEX, () -> x.addClass(own));
            Check.dueThrow(x, "addClass(-1)", INDEX, () -> x.addClass(-1));
            Check.due("addClass(" + (c - 1) + "), the last one", c, x.addClass(c - 1));
            Check.due("parent(" + c + ")", c - 1, x.parent(c));
        }
    }

    /** "Adds a class, which is not live", even below live ones. */
    private static void newClassIsNotLive() {
        InlinePlanner x = new InlinePlanner();
        x.setLive(0, true);
        for (int c = 1; c < 16; c++) {
            x.addClass(c - 1);
            Check.due("liveBelow(" + c + ")", 0, x.liveBelow(c));
            Check.due("setLive(" + c + ", true)", false, x.setLive(c, true));
        }
    }

    // Promise 3. "Returns whether it was live before."

    private static void liveAsBefore() {
        boolean[] states = {true, true, false, false, true, false};
        for (int c = 0; c < 16; c += 5) {
            InlinePlanner x = States.fan();
            boolean before = false;
            for (boolean live : states) {
                Check.due("setLive(" + c + ", " + live + ")", before, x.setLive(c, live));
                Check.due("liveBelow(" + c + ")", live ? 1 : 0, x.liveBelow(c));
                before = live;
            }
        }
    }

    private static void liveFirstAndLastClass() {
        for (int count = 1; count <= 16; count += 15) {
            InlinePlanner x = count == 1 ? new InlinePlanner() : States.fan();
            int none = count;
            Check.due("setLive(0, true)", false, x.setLive(0, true));
            Check.due("setLive(last, true)", count == 1, x.setLive(count - 1, true));
            Check.dueThrow(x, "setLive(" + none + ", true)", INDEX, () -> x.setLive(none, true) ? 1 : 0);
            Check.dueThrow(x, "setLive(-1, true)", INDEX, () -> x.setLive(-1, true) ? 1 : 0);
            Check.dueThrow(x, "setLive(" + none + ", false)", INDEX, () -> x.setLive(none, false) ? 1 : 0);
            Check.dueThrow(x, "setLive(-1, false)", INDEX, () -> x.setLive(-1, false) ? 1 : 0);
        }
    }

    /** No class becomes live, or is live no more, with another one. */
    private static void liveOneAlone() {
        InlinePlanner x = States.chain();
        for (int c = 0; c < 16; c++) {
            x.setLive(c, true);
            for (int d = 0; d < 16; d++) {
                Check.due("setLive(" + d + ", ..)", c == d, x.setLive(d, c == d));
            }
            x.setLive(c, false);
        }
    }

    // Promise 4. "Returns the number of classes."

    private static void countsOneToSixteen() {
        InlinePlanner x = new InlinePlanner();
        for (int count = 1; count < 16; count++) {
            Check.due("classCount()", count, x.classCount());
            Check.dueThrow(x, "addClass(16)", INDEX, () -> x.addClass(16));
            Check.due("classCount() behind a refused call", count, x.classCount());
            x.addClass(0);
        }
        Check.due("classCount()", 16, x.classCount());
        Check.dueThrow(x, "addClass(0)", STATE, () -> x.addClass(0));
        Check.due("classCount() behind a refused call", 16, x.classCount());
    }

    // Promise 5. "Returns its parent; -1 for class 0."

    private static void parentsOfAll() {
        InlinePlanner chain = States.chain();
        InlinePlanner fan = States.fan();
        Check.due("parent(0) in a chain", -1, chain.parent(0));
        Check.due("parent(0) in a fan", -1, fan.parent(0));
        for (int c = 1; c < 16; c++) {
            Check.due("parent(" + c + ") in a chain", c - 1, chain.parent(c));
            Check.due("parent(" + c + ") in a fan", 0, fan.parent(c));
        }
    }

    private static void parentOfNoClass() {
        InlinePlanner x = new InlinePlanner();
        for (int count = 1; count <= 16; count++) {
            int none = count;
            Check.dueThrow(x, "parent(" + none + ")", INDEX, () -> x.parent(none));
            Check.dueThrow(x, "parent(-1)", INDEX, () -> x.parent(-1));
            if (count < 16) {
                x.addClass(0);
            }
        }
    }

    // Promise 6. "A class is below itself, and below each class below which its parent is."

    private static void belowItself() {
        InlinePlanner x = new InlinePlanner();
        Check.due("isBelow(0, 0) in a new object", true, x.isBelow(0, 0));
        InlinePlanner y = States.fan();
        for (int c = 0; c < 16; c++) {
            Check.due("isBelow(" + c + ", " + c + ")", true, y.isBelow(c, c));
        }
    }

    private static void belowInChain() {
        InlinePlanner x = States.chain();
        for (int c = 0; c < 16; c++) {
            for (int d = 0; d < 16; d++) {
                Check.due("isBelow(" + c + ", " + d + ") in a chain", c >= d, x.isBelow(c, d));
            }
        }
    }

    private static void belowInFan() {
        InlinePlanner x = States.fan();
        for (int c = 0; c < 16; c++) {
            for (int d = 0; d < 16; d++) {
                Check.due("isBelow(" + c + ", " + d + ") in a fan", c == d || d == 0, x.isBelow(c, d));
            }
        }
    }

    private static void belowNoClass() {
        for (InlinePlanner x : new InlinePlanner[] {new InlinePlanner(), States.fan()}) {
            int none = x.classCount();
            Check.due("isBelow(last, 0)", true, x.isBelow(none - 1, 0));
            for (int bad : new int[] {-1, none, Integer.MIN_VALUE, Integer.MAX_VALUE}) {
                Check.dueThrow(x, "isBelow(" + bad + ", 0)", INDEX, () -> x.isBelow(bad, 0) ? 1 : 0);
                Check.dueThrow(x, "isBelow(0, " + bad + ")", INDEX, () -> x.isBelow(0, bad) ? 1 : 0);
                Check.dueThrow(x, "isBelow of twice " + bad, INDEX, () -> x.isBelow(bad, bad) ? 1 : 0);
            }
        }
    }

    // Promise 7. "Returns how many live classes are below it."

    private static void noneLiveBelow() {
        Check.due("liveBelow(0) in a new object", 0, new InlinePlanner().liveBelow(0));
        InlinePlanner x = States.chain();
        for (int c = 0; c < 16; c++) {
            Check.due("liveBelow(" + c + ")", 0, x.liveBelow(c));
        }
    }

    private static void allLiveBelow() {
        InlinePlanner chain = States.chain();
        InlinePlanner fan = States.fan();
        for (int c = 0; c < 16; c++) {
            chain.setLive(c, true);
            fan.setLive(c, true);
        }
        for (int c = 0; c < 16; c++) {
            Check.due("liveBelow(" + c + ") in a chain", 16 - c, chain.liveBelow(c));
            Check.due("liveBelow(" + c + ") in a fan", c == 0 ? 16 : 1, fan.liveBelow(c));
        }
    }

    private static void liveAboveOrBeside() {
        InlinePlanner x = States.chain();
        x.setLive(7, true);
        Check.due("liveBelow(8), its parent is live", 0, x.liveBelow(8));
        Check.due("liveBelow(7), it is live itself", 1, x.liveBelow(7));
        Check.due("liveBelow(6)", 1, x.liveBelow(6));
        InlinePlanner y = States.fan();
        y.setLive(7, true);
        Check.due("liveBelow(6), live beside it", 0, y.liveBelow(6));
        Check.due("liveBelow(8), live beside it", 0, y.liveBelow(8));
    }

    private static void liveBelowNoClass() {
        for (InlinePlanner x : new InlinePlanner[] {new InlinePlanner(), States.fan()}) {
            int none = x.classCount();
            Check.due("liveBelow(last)", 0, x.liveBelow(none - 1));
            Check.dueThrow(x, "liveBelow(-1)", INDEX, () -> x.liveBelow(-1));
            Check.dueThrow(x, "liveBelow(" + none + ")", INDEX, () -> x.liveBelow(none));
        }
    }
}
