import java.util.NoSuchElementException;

/** Promises 8 to 14: methods, sites, and what calls can reach. */
public final class MethodsTest {
    private static final Class<IndexOutOfBoundsException> INDEX = IndexOutOfBoundsException.class;
    private static final Class<IllegalArgumentException> ARGUMENT = IllegalArgumentException.class;
    private static final Class<IllegalStateException> STATE = IllegalStateException.class;

    public static void main(String[] args) {
        addsMethods();
        wrongMethods();
        thirtyMethods();
        addsCalls();
        wrongCalls();
        eightSites();
        findsMethods();
        tellsTargets();
        wrongTargets();
        tellsReached();
        reachesThirty();
        Check.end();
    }

    private static void addsMethods() {
        InlinePlanner x = new InlinePlanner();
        x.addClass(0);
        Check.due("addMethod(0, 0, 1)", 0, x.addMethod(0, 0, 1));
        Check.due("addMethod(1, 0, 100)", 1, x.addMethod(1, 0, 100));
        Check.due("addMethod(0, 7, 50)", 2, x.addMethod(0, 7, 50));
        Check.due("methodCount()", 3, x.methodCount());
        x.plan(1);
        Check.due("size() of method 1", 100, x.size());
        Check.due("siteCount(0) of a new method", 0, x.siteCount(0));
        x.plan(0);
        Check.due("size() of method 0", 1, x.size());
    }

    private static void wrongMethods() {
        InlinePlanner x = new InlinePlanner();
        x.addMethod(0, 3, 5);
        for (int bad : new int[] {-1, 1, 16, Integer.MIN_VALUE, Integer.MAX_VALUE}) {
            Check.dueThrow(x, "addMethod(" + bad + ", 0, 0)", INDEX, () -> x.addMethod(bad, 0, 0));
        }
        for (int bad : new int[] {-1, 8, Integer.MIN_VALUE, Integer.MAX_VALUE}) {
            Check.dueThrow(x, "addMethod(0, " + bad + ", 101)", INDEX, () -> x.addMethod(0, bad, 101));
        }
        for (int bad : new int[] {0, 101, -1, Integer.MIN_VALUE, Integer.MAX_VALUE}) {
            Check.dueThrow(x, "addMethod(0, 0, " + bad + ")", ARGUMENT, () -> x.addMethod(0, 0, bad));
        }
        Check.dueThrow(x, "addMethod(0, 3, 5) again", ARGUMENT, () -> x.addMethod(0, 3, 5));
        Check.due("methodCount()", 1, x.methodCount());
        Check.due("found(0, 0)", -1, x.found(0, 0));
        Check.due("found(0, 3)", 0, x.found(0, 3));
        x.addClass(0);
        Check.due("addMethod(1, 3, 5), which the parent has", 1, x.addMethod(1, 3, 5));
    }

    private static void thirtyMethods() {
        InlinePlanner x = new InlinePlanner();
        for (int c = 1; c < 4; c++) {
            x.addClass(0);
        }
        for (int m = 0; m < 30; m++) {
            Check.due("addMethod()", m, x.addMethod(m / 8, m % 8, m + 1));
        }
        Check.due("methodCount()", 30, x.methodCount());
        Check.dueThrow(x, "addMethod(3, 6, 1), the 31st", STATE, () -> x.addMethod(3, 6, 1));
        Check.dueThrow(x, "addMethod(3, 6, 0), the 31st", ARGUMENT, () -> x.addMethod(3, 6, 0));
        Check.dueThrow(x, "addMethod(3, 5, 1), the 31st", ARGUMENT, () -> x.addMethod(3, 5, 1));
        Check.dueThrow(x, "addMethod(4, 6, 1), the 31st", INDEX, () -> x.addMethod(4, 6, 1));
        Check.dueThrow(x, "addMethod(3, 8, 1), the 31st", INDEX, () -> x.addMethod(3, 8, 1));
        Check.due("methodCount()", 30, x.methodCount());
        Check.due("found(3, 6), inherited", 6, x.found(3, 6));
        Check.due("found(3, 5)", 29, x.found(3, 5));
    }

    private static void addsCalls() {
        InlinePlanner x = new InlinePlanner();
        x.addMethod(0, 0, 1);
        x.addMethod(0, 1, 1);
        Check.due("addCall(0, 0, 1, 1)", 0, x.addCall(0, 0, 1, 1));
        Check.due("addCall(0, 0, 7, 20)", 1, x.addCall(0, 0, 7, 20));
        Check.due("addCall(1, 0, 0, 5)", 0, x.addCall(1, 0, 0, 5));
        x.plan(0);
        Check.due("siteCount(0)", 2, x.siteCount(0));
        Check.due("weight(0, 0)", 1, x.weight(0, 0));
        Check.due("weight(0, 1)", 20, x.weight(0, 1));
        x.plan(1);
        Check.due("siteCount(0)", 1, x.siteCount(0));
        Check.due("weight(0, 0)", 5, x.weight(0, 0));
    }

    private static void wrongCalls() {
        InlinePlanner x = new InlinePlanner();
        Check.dueThrow(x, "addCall(0, 0, 0, 1) without a method", INDEX, () -> x.addCall(0, 0, 0, 1));
        x.addMethod(0, 0, 1);
        x.plan(0);
        for (int bad : new int[] {-1, 1, 30, Integer.MIN_VALUE, Integer.MAX_VALUE}) {
            Check.dueThrow(x, "addCall(" + bad + ", 0, 0, 0)", INDEX, () -> x.addCall(bad, 0, 0, 0));
            Check.dueThrow(x, "addCall(0, " + bad + ", 0, 0)", INDEX, () -> x.addCall(0, bad, 0, 0));
        }
        for (int bad : new int[] {-1, 8, Integer.MIN_VALUE, Integer.MAX_VALUE}) {
            Check.dueThrow(x, "addCall(0, 0, " + bad + ", 21)", INDEX, () -> x.addCall(0, 0, bad, 21));
        }
        for (int bad : new int[] {0, 21, -1, Integer.MIN_VALUE, Integer.MAX_VALUE}) {
            Check.dueThrow(x, "addCall(0, 0, 0, " + bad + ")", ARGUMENT, () -> x.addCall(0, 0, 0, bad));
        }
        Check.due("hasPlan() behind calls that threw", true, x.hasPlan());
        Check.due("addCall(0, 0, 0, 1)", 0, x.addCall(0, 0, 0, 1));
    }

    private static void eightSites() {
        InlinePlanner x = new InlinePlanner();
        x.addMethod(0, 0, 1);
        x.addMethod(0, 1, 1);
        for (int site = 0; site < 8; site++) {
            Check.due("addCall()", site, x.addCall(0, 0, 1, site + 1));
        }
        x.plan(0);
        Check.dueThrow(x, "addCall(), the 9th", STATE, () -> x.addCall(0, 0, 1, 1));
        Check.dueThrow(x, "addCall() with frequency 0, the 9th", ARGUMENT, () -> x.addCall(0, 0, 1, 0));
        Check.dueThrow(x, "addCall() with selector 8, the 9th", INDEX, () -> x.addCall(0, 0, 8, 1));
        Check.due("hasPlan()", true, x.hasPlan());
        Check.due("siteCount(0)", 8, x.siteCount(0));
        Check.due("weight(0, 7)", 8, x.weight(0, 7));
        Check.due("addCall(1, 0, 0, 1)", 0, x.addCall(1, 0, 0, 1));
    }

    private static void findsMethods() {
        InlinePlanner x = new InlinePlanner();
        x.addClass(0);
        x.addClass(1);
        x.addClass(0);
        x.addMethod(1, 4, 1);
        Check.due("found(0, 4)", -1, x.found(0, 4));
        Check.due("found(1, 4)", 0, x.found(1, 4));
        Check.due("found(2, 4)", 0, x.found(2, 4));
        Check.due("found(3, 4)", -1, x.found(3, 4));
        Check.due("found(2, 3)", -1, x.found(2, 3));
        x.addMethod(0, 4, 1);
        Check.due("found(2, 4), the nearest one", 0, x.found(2, 4));
        Check.due("found(3, 4)", 1, x.found(3, 4));
        x.addMethod(2, 4, 1);
        Check.due("found(2, 4)", 2, x.found(2, 4));
        Check.due("found(1, 4)", 0, x.found(1, 4));
        x.addClass(2);
        Check.due("found(4, 4), a class that came later", 2, x.found(4, 4));
        for (int bad : new int[] {-1, 5, 16, Integer.MIN_VALUE, Integer.MAX_VALUE}) {
            Check.dueThrow(x, "found(" + bad + ", 0)", INDEX, () -> x.found(bad, 0));
        }
        for (int bad : new int[] {-1, 8, Integer.MIN_VALUE, Integer.MAX_VALUE}) {
            Check.dueThrow(x, "found(0, " + bad + ")", INDEX, () -> x.found(0, bad));
        }
    }

    /** 0 above 1 and 3, 1 above 2; method 0 in class 2, 1 in class 0, 2 in class 3, all for selector 5. */
    private static InlinePlanner threeTargets() {
        InlinePlanner x = new InlinePlanner();
        x.addClass(0);
        x.addClass(1);
        x.addClass(0);
        x.addMethod(2, 5, 1);
        x.addMethod(0, 5, 1);
        x.addMethod(3, 5, 1);
        return x;
    }

    private static void tellsTargets() {
        InlinePlanner x = threeTargets();
        Check.due("targetCount(0, 5), nothing is live", 0, x.targetCount(0, 5));
        x.setLive(1, true);
        Check.due("targetCount(1, 5)", 1, x.targetCount(1, 5));
        Check.due("target(1, 5, 0), found above the receiver", 1, x.target(1, 5, 0));
        x.setLive(2, true);
        Check.due("targetCount(1, 5)", 2, x.targetCount(1, 5));
        Check.due("target(1, 5, 0), ascending", 0, x.target(1, 5, 0));
        Check.due("target(1, 5, 1), ascending", 1, x.target(1, 5, 1));
        Check.due("targetCount(2, 5)", 1, x.targetCount(2, 5));
        Check.due("targetCount(3, 5)", 0, x.targetCount(3, 5));
        x.setLive(0, true);
        Check.due("targetCount(0, 5), two classes with one method", 2, x.targetCount(0, 5));
        x.setLive(3, true);
        Check.due("targetCount(0, 5)", 3, x.targetCount(0, 5));
        Check.due("target(0, 5, 2)", 2, x.target(0, 5, 2));
        Check.due("targetCount(0, 4), no method", 0, x.targetCount(0, 4));
        x.setLive(1, false);
        x.setLive(2, false);
        Check.due("targetCount(1, 5), not live any more", 0, x.targetCount(1, 5));
    }

    private static void wrongTargets() {
        InlinePlanner x = threeTargets();
        x.setLive(1, true);
        x.setLive(2, true);
        for (int bad : new int[] {-1, 2, 3, 8, Integer.MIN_VALUE, Integer.MAX_VALUE}) {
            Check.dueThrow(x, "target(0, 5, " + bad + ")", NoSuchElementException.class, () -> x.target(0, 5, bad));
        }
        Check.dueThrow(x, "target(3, 5, 0)", NoSuchElementException.class, () -> x.target(3, 5, 0));
        for (int bad : new int[] {-1, 4, 16, Integer.MIN_VALUE, Integer.MAX_VALUE}) {
            Check.dueThrow(x, "targetCount(" + bad + ", 5)", INDEX, () -> x.targetCount(bad, 5));
            Check.dueThrow(x, "target(" + bad + ", 5, -1)", INDEX, () -> x.target(bad, 5, -1));
        }
        for (int bad : new int[] {-1, 8, Integer.MIN_VALUE, Integer.MAX_VALUE}) {
            Check.dueThrow(x, "targetCount(0, " + bad + ")", INDEX, () -> x.targetCount(0, bad));
            Check.dueThrow(x, "target(0, " + bad + ", 9)", INDEX, () -> x.target(0, bad, 9));
        }
    }

    private static void tellsReached() {
        InlinePlanner x = threeTargets();
        int a = x.addMethod(0, 0, 1);
        int b = x.addMethod(0, 1, 1);
        x.addCall(a, 1, 5, 1);
        x.addCall(b, 0, 0, 1);
        Check.due("reached(3), nothing is live", 1 << 3, x.reached(a));
        x.setLive(2, true);
        Check.due("reached(3)", 1 << 3 | 1, x.reached(a));
        Check.due("reached(4), through another method", 1 << 4 | 1 << 3 | 1, x.reached(b));
        x.addCall(0, 0, 1, 1);
        Check.due("reached(3), round a circle", 1 << 3 | 1 << 4 | 1, x.reached(a));
        Check.due("reached(0), round a circle", 1 << 3 | 1 << 4 | 1, x.reached(0));
        x.setLive(1, true);
        Check.due("reached(0), with several targets", 1 << 3 | 1 << 4 | 2 | 1, x.reached(0));
        Check.due("reached(2)", 4, x.reached(2));
        for (int bad : new int[] {-1, 5, 30, Integer.MIN_VALUE, Integer.MAX_VALUE}) {
            Check.dueThrow(x, "reached(" + bad + ")", INDEX, () -> x.reached(bad));
        }
    }

    private static void reachesThirty() {
        InlinePlanner x = new InlinePlanner();
        for (int c = 1; c <= 4; c++) {
            x.setLive(x.addClass(0), true);
        }
        for (int m = 0; m < 30; m++) {
            x.addMethod(1 + m / 8, m % 8, 1);
        }
        // Each calls the one before it, so that the way from the last to the first is the longest.
        for (int m = 1; m < 30; m++) {
            int before = m - 1;
            x.addCall(m, 1 + before / 8, before % 8, 1);
        }
        Check.due("reached(29)", (1 << 30) - 1, x.reached(29));
        Check.due("reached(15)", (1 << 16) - 1, x.reached(15));
        Check.due("reached(0)", 1, x.reached(0));
        x.setLive(2, false);
        Check.due("reached(29), with a gap", (1 << 30) - (1 << 16), x.reached(29));
    }
}
