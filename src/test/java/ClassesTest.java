/** Promises 1 to 7: a new object, and the classes. */
public final class ClassesTest {
    private static final int[] NO_CLASS_AT_FIRST = {-1, 1, 2, 16, Integer.MIN_VALUE, Integer.MAX_VALUE};

    public static void main(String[] args) {
        newObject();
        addsClasses();
        sixteenClasses();
        setsLive();
        tellsBelow();
        countsLiveBelow();
        wrongClasses();
        Check.end();
    }

    private static void newObject() {
        InlinePlanner x = new InlinePlanner();
        Check.due("classCount()", 1, x.classCount());
        Check.due("parent(0)", -1, x.parent(0));
        Check.due("methodCount()", 0, x.methodCount());
        Check.due("hasPlan()", false, x.hasPlan());
        Check.due("liveBelow(0)", 0, x.liveBelow(0));
        for (int selector = 0; selector < 8; selector++) {
            Check.due("found(0, s)", -1, x.found(0, selector));
            Check.due("targetCount(0, s)", 0, x.targetCount(0, selector));
        }
        Check.due("digest()", Check.digestOf(1, -1, 0, 0, 200, 4, 1), x.digest());
    }

    private static void addsClasses() {
        InlinePlanner x = new InlinePlanner();
        Check.due("addClass(0)", 1, x.addClass(0));
        Check.due("addClass(1)", 2, x.addClass(1));
        Check.due("addClass(0)", 3, x.addClass(0));
        Check.due("classCount()", 4, x.classCount());
        Check.due("parent(1)", 0, x.parent(1));
        Check.due("parent(2)", 1, x.parent(2));
        Check.due("parent(3)", 0, x.parent(3));
        Check.due("setLive(3, false)", false, x.setLive(3, false));
    }

    private static void sixteenClasses() {
        InlinePlanner x = new InlinePlanner();
        for (int c = 1; c < 16; c++) {
            Check.due("addClass()", c, x.addClass(c - 1));
        }
        Check.due("classCount()", 16, x.classCount());
        Check.dueThrow(x, "addClass(0)", IllegalStateException.class, () -> x.addClass(0));
        Check.dueThrow(x, "addClass(15)", IllegalStateException.class, () -> x.addClass(15));
        Check.dueThrow(x, "addClass(16)", IndexOutOfBoundsException.class, () -> x.addClass(16));
        Check.dueThrow(x, "addClass(-1)", IndexOutOfBoundsException.class, () -> x.addClass(-1));
        Check.due("classCount()", 16, x.classCount());
        Check.due("isBelow(15, 0)", true, x.isBelow(15, 0));
        Check.due("isBelow(0, 15)", false, x.isBelow(0, 15));
        Check.due("parent(15)", 14, x.parent(15));
        x.setLive(15, true);
        Check.due("liveBelow(0)", 1, x.liveBelow(0));
        Check.due("liveBelow(15)", 1, x.liveBelow(15));
        x.addMethod(0, 0, 1);
        Check.due("targetCount(0, 0), found for the last class", 1, x.targetCount(0, 0));
        x.addMethod(15, 0, 1);
        x.setLive(14, true);
        Check.due("targetCount(0, 0)", 2, x.targetCount(0, 0));
        Check.due("targetCount(15, 0)", 1, x.targetCount(15, 0));
        Check.due("target(15, 0, 0)", 1, x.target(15, 0, 0));
    }

    private static void setsLive() {
        InlinePlanner x = new InlinePlanner();
        x.addClass(0);
        Check.due("setLive(0, true)", false, x.setLive(0, true));
        Check.due("setLive(0, true)", true, x.setLive(0, true));
        Check.due("setLive(1, false)", false, x.setLive(1, false));
        Check.due("liveBelow(0)", 1, x.liveBelow(0));
        Check.due("setLive(0, false)", true, x.setLive(0, false));
        Check.due("setLive(0, false)", false, x.setLive(0, false));
        Check.due("liveBelow(0)", 0, x.liveBelow(0));
        x.setLive(1, true);
        Check.due("addClass(1)", 2, x.addClass(1));
        Check.due("setLive(2, true), whose parent is live", false, x.setLive(2, true));
    }

    private static void tellsBelow() {
        InlinePlanner x = family();
        int[][] below = {{0}, {1, 0}, {2, 0}, {3, 1, 0}, {4, 3, 1, 0}, {5, 2, 0}};
        for (int c = 0; c < 6; c++) {
            for (int d = 0; d < 6; d++) {
                boolean want = false;
                for (int above : below[c]) {
                    want |= above == d;
                }
                Check.due("isBelow(" + c + ", " + d + ")", want, x.isBelow(c, d));
            }
        }
    }

    private static void countsLiveBelow() {
        InlinePlanner x = family();
        x.setLive(0, true);
        x.setLive(1, true);
        x.setLive(4, true);
        x.setLive(5, true);
        int[] want = {4, 2, 1, 1, 1, 1};
        for (int c = 0; c < 6; c++) {
            Check.due("liveBelow(" + c + ")", want[c], x.liveBelow(c));
        }
        x.setLive(4, false);
        Check.due("liveBelow(3)", 0, x.liveBelow(3));
    }

    /** 0 above 1 and 2, 1 above 3, 3 above 4, 2 above 5. */
    private static InlinePlanner family() {
        InlinePlanner x = new InlinePlanner();
        x.addClass(0);
        x.addClass(0);
        x.addClass(1);
        x.addClass(3);
        x.addClass(2);
        return x;
    }

    private static void wrongClasses() {
        Class<IndexOutOfBoundsException> index = IndexOutOfBoundsException.class;
        InlinePlanner x = new InlinePlanner();
        for (int c : NO_CLASS_AT_FIRST) {
            Check.dueThrow(x, "addClass(" + c + ")", index, () -> x.addClass(c));
            Check.dueThrow(x, "setLive(" + c + ", true)", index, () -> x.setLive(c, true) ? 1 : 0);
            Check.dueThrow(x, "parent(" + c + ")", index, () -> x.parent(c));
            Check.dueThrow(x, "isBelow(" + c + ", 0)", index, () -> x.isBelow(c, 0) ? 1 : 0);
            Check.dueThrow(x, "isBelow(0, " + c + ")", index, () -> x.isBelow(0, c) ? 1 : 0);
            Check.dueThrow(x, "liveBelow(" + c + ")", index, () -> x.liveBelow(c));
        }
        Check.due("classCount()", 1, x.classCount());
    }
}
