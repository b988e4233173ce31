import java.util.NoSuchElementException;
import java.util.stream.LongStream;

/** Promises 8 to 14, sentence by sentence, at the last values that are allowed and the first that are not. */
public final class MethodBoundsTest {
    private static final Class<IndexOutOfBoundsException> INDEX = IndexOutOfBoundsException.class;
    private static final Class<IllegalArgumentException> ARGUMENT = IllegalArgumentException.class;
    private static final Class<IllegalStateException> STATE = IllegalStateException.class;
    private static final Class<NoSuchElementException> ELEMENT = NoSuchElementException.class;

    public static void main(String[] args) {
        classOfMethod();
        selectorOfMethod();
        sizeOfMethod();
        oneMethodForSelector();
        firstAndLastMethod();
        thirtyFirstMethod();
        newMethodHasNoSites();
        methodOfSite();
        receiverOfSite();
        selectorOfSite();
        frequencyOfSite();
        firstAndLastSite();
        ninthSite();
        allSitesOfAllMethods();
        countsNoneToThirty();
        foundNone();
        foundInItself();
        foundAtTheEndOfChain();
        foundOnlyAbove();
        foundForEachSelector();
        foundWhetherLiveOrNot();
        foundForNoClassOrSelector();
        noLiveClassNoTarget();
        noMethodNoTarget();
        targetOfReceiverItself();
        targetsOnlyBelow();
        sameTargetOnce();
        sixteenTargets();
        targetsAscend();
        targetOfNoIndex();
        targetsOfNoClassOrSelector();
        reachesItself();
        reachesAll();
        reachesByEachSite();
        reachesRoundCircle();
        reachesOnlyThroughTargets();
        reachedFromNoMethod();
        Check.end();
    }

    /** 30 methods: method m has class m / 8 and selector m % 8; all four classes are live. */
    private static InlinePlanner thirty() {
        InlinePlanner x = new InlinePlanner();
        for (int c = 0; c < 4; c++) {
            x.setLive(c == 0 ? 0 : x.addClass(0), true);
        }
        for (int m = 0; m < 30; m++) {
            x.addMethod(m / 8, m % 8, 1 + m);
        }
        return x;
    }

    // Promise 8. "Throws IndexOutOfBoundsException if there is no such class or selector."

    private static void classOfMethod() {
        for (int count = 1; count <= 16; count += 15) {
            InlinePlanner x = count == 1 ? new InlinePlanner() : States.fan();
            int none = count;
            Check.dueThrow(x, "addMethod(-1, 0, 1)", INDEX, () -> x.addMethod(-1, 0, 1));
            Check.dueThrow(x, "addMethod(" + none + ", 0, 1)", INDEX, () -> x.addMethod(none, 0, 1));
            Check.due("addMethod(last, 0, 1)", 0, x.addMethod(count - 1, 0, 1));
            Check.due("addMethod(0, 1, 1)", 1, x.addMethod(0, 1, 1));
        }
    }

    private static void selectorOfMethod() {
        InlinePlanner x = new InlinePlanner();
        Check.dueThrow(x, "addMethod(0, -1, 1)", INDEX, () -> x.addMethod(0, -1, 1));
        Check.dueThrow(x, "addMethod(0, 8, 1)", INDEX, () -> x.addMethod(0, 8, 1));
        Check.due("addMethod(0, 0, 1)", 0, x.addMethod(0, 0, 1));
        Check.due("addMethod(0, 7, 1)", 1, x.addMethod(0, 7, 1));
    }

    /** "Throws IllegalArgumentException if size is not 1 to 100." */
    private static void sizeOfMethod() {
        InlinePlanner x = new InlinePlanner();
        Check.dueThrow(x, "addMethod(0, 0, 0)", ARGUMENT, () -> x.addMethod(0, 0, 0));
        Check.dueThrow(x, "addMethod(0, 0, 101)", ARGUMENT, () -> x.addMethod(0, 0, 101));
        Check.dueThrow(x, "addMethod(0, 0, -1)", ARGUMENT, () -> x.addMethod(0, 0, -1));
        Check.due("addMethod(0, 0, 1)", 0, x.addMethod(0, 0, 1));
        Check.due("addMethod(0, 1, 100)", 1, x.addMethod(0, 1, 100));
        x.plan(0);
        Check.due("size() of the smallest", 1, x.size());
        x.plan(1);
        Check.due("size() of the largest", 100, x.size());
    }

    /** "A class has at most one method for a selector": another one of it, and of other classes, is fine. */
    private static void oneMethodForSelector() {
        InlinePlanner x = new InlinePlanner();
        x.addClass(0);
        x.addClass(1);
        x.addClass(0);
        x.addMethod(1, 4, 10);
        Check.dueThrow(x, "addMethod(1, 4, 10)", ARGUMENT, () -> x.addMethod(1, 4, 10));
        Check.dueThrow(x, "addMethod(1, 4, 11), of another size", ARGUMENT, () -> x.addMethod(1, 4, 11));
        Check.due("addMethod(0, 4, 10), its parent", 1, x.addMethod(0, 4, 10));
        Check.due("addMethod(2, 4, 10), below it", 2, x.addMethod(2, 4, 10));
        Check.due("addMethod(3, 4, 10), beside it", 3, x.addMethod(3, 4, 10));
        Check.due("addMethod(1, 3, 10), the selector before", 4, x.addMethod(1, 3, 10));
        Check.due("addMethod(1, 5, 10), the selector behind", 5, x.addMethod(1, 5, 10));
        for (int c = 0; c < 4; c++) {
            int twice = c;
            Check.dueThrow(x, "addMethod(" + c + ", 4, 1)", ARGUMENT, () -> x.addMethod(twice, 4, 1));
        }
        x.plan(0);
        Check.due("size(), as it was added", 10, x.size());
    }

    /** "There are at most 30 methods, numbered from 0 in the order of their creation." */
    private static void firstAndLastMethod() {
        InlinePlanner x = States.fan();
        for (int m = 0; m < 30; m++) {
            Check.due("addMethod()", m, x.addMethod(15 - m / 2, m % 2 == 0 ? 7 : 0, 1));
        }
        Check.due("found(15, 7)", 0, x.found(15, 7));
        Check.due("found(1, 0)", 29, x.found(1, 0));
    }

    private static void thirtyFirstMethod() {
        InlinePlanner x = thirty();
        Check.dueThrow(x, "addMethod(3, 6, 1)", STATE, () -> x.addMethod(3, 6, 1));
        Check.dueThrow(x, "addMethod(3, 7, 100)", STATE, () -> x.addMethod(3, 7, 100));
        Check.dueThrow(x, "addMethod(3, 6, 101)", ARGUMENT, () -> x.addMethod(3, 6, 101));
        Check.dueThrow(x, "addMethod(3, 5, 1)", ARGUMENT, () -> x.addMethod(3, 5, 1));
        Check.dueThrow(x, "addMethod(4, 6, 0)", INDEX, () -> x.addMethod(4, 6, 0));
        Check.dueThrow(x, "addMethod(3, 8, 0)", INDEX, () -> x.addMethod(3, 8, 0));
        Check.due("methodCount()", 30, x.methodCount());
        Check.due("found(3, 6), that of the parent", 6, x.found(3, 6));
    }

    private static void newMethodHasNoSites() {
        InlinePlanner x = thirty();
        for (int m = 0; m < 30; m++) {
            Check.due("plan(" + m + ")", 1, x.plan(m));
            Check.due("siteCount(0)", 0, x.siteCount(0));
        }
    }

    // Promise 9. "Throws IndexOutOfBoundsException if there is no such method, class or selector."

    private static void methodOfSite() {
        InlinePlanner x = new InlinePlanner();
        Check.dueThrow(x, "addCall(0, 0, 0, 1) without a method", INDEX, () -> x.addCall(0, 0, 0, 1));
        InlinePlanner y = thirty();
        Check.dueThrow(y, "addCall(-1, 0, 0, 1)", INDEX, () -> y.addCall(-1, 0, 0, 1));
        Check.dueThrow(y, "addCall(30, 0, 0, 1)", INDEX, () -> y.addCall(30, 0, 0, 1));
        Check.due("addCall(0, 0, 0, 1)", 0, y.addCall(0, 0, 0, 1));
        Check.due("addCall(29, 0, 0, 1)", 0, y.addCall(29, 0, 0, 1));
    }

    private static void receiverOfSite() {
        for (int count = 1; count <= 16; count += 15) {
            InlinePlanner x = count == 1 ? new InlinePlanner() : States.fan();
            x.addMethod(0, 0, 1);
            int none = count;
            Check.dueThrow(x, "addCall(0, -1, 0, 1)", INDEX, () -> x.addCall(0, -1, 0, 1));
            Check.dueThrow(x, "addCall(0, " + none + ", 0, 1)", INDEX, () -> x.addCall(0, none, 0, 1));
            Check.due("addCall(0, last, 0, 1)", 0, x.addCall(0, count - 1, 0, 1));
            Check.due("addCall(0, 0, 0, 1)", 1, x.addCall(0, 0, 0, 1));
        }
    }

    private static void selectorOfSite() {
        InlinePlanner x = new InlinePlanner();
        x.addMethod(0, 0, 1);
        Check.dueThrow(x, "addCall(0, 0, -1, 1)", INDEX, () -> x.addCall(0, 0, -1, 1));
        Check.dueThrow(x, "addCall(0, 0, 8, 1)", INDEX, () -> x.addCall(0, 0, 8, 1));
        Check.due("addCall(0, 0, 0, 1)", 0, x.addCall(0, 0, 0, 1));
        Check.due("addCall(0, 0, 7, 1)", 1, x.addCall(0, 0, 7, 1));
    }

    /** "Throws IllegalArgumentException if frequency is not 1 to 20." */
    private static void frequencyOfSite() {
        InlinePlanner x = new InlinePlanner();
        x.addMethod(0, 0, 1);
        Check.dueThrow(x, "addCall(0, 0, 0, 0)", ARGUMENT, () -> x.addCall(0, 0, 0, 0));
        Check.dueThrow(x, "addCall(0, 0, 0, 21)", ARGUMENT, () -> x.addCall(0, 0, 0, 21));
        Check.dueThrow(x, "addCall(0, 0, 0, -1)", ARGUMENT, () -> x.addCall(0, 0, 0, -1));
        Check.due("addCall(0, 0, 0, 1)", 0, x.addCall(0, 0, 0, 1));
        Check.due("addCall(0, 0, 0, 20)", 1, x.addCall(0, 0, 0, 20));
        x.plan(0);
        Check.due("weight(0, 0)", 1, x.weight(0, 0));
        Check.due("weight(0, 1)", 20, x.weight(0, 1));
    }

    /** "A method has at most 8 sites, numbered from 0 in the order of their creation." */
    private static void firstAndLastSite() {
        InlinePlanner x = new InlinePlanner();
        x.addMethod(0, 0, 1);
        for (int site = 0; site < 8; site++) {
            Check.due("addCall()", site, x.addCall(0, 0, site, 20 - site));
            x.plan(0);
            Check.due("siteCount(0)", site + 1, x.siteCount(0));
            Check.due("weight(0, " + site + ")", 20 - site, x.weight(0, site));
        }
    }

    private static void ninthSite() {
        InlinePlanner x = new InlinePlanner();
        x.addMethod(0, 0, 1);
        x.addMethod(0, 1, 1);
        for (int site = 0; site < 8; site++) {
            x.addCall(0, 0, 0, 1);
        }
        Check.dueThrow(x, "addCall(0, 0, 0, 1)", STATE, () -> x.addCall(0, 0, 0, 1));
        Check.dueThrow(x, "addCall(0, 0, 0, 21)", ARGUMENT, () -> x.addCall(0, 0, 0, 21));
        Check.dueThrow(x, "addCall(0, 0, 0, 0)", ARGUMENT, () -> x.addCall(0, 0, 0, 0));
        Check.dueThrow(x, "addCall(0, 1, 0, 0)", INDEX, () -> x.addCall(0, 1, 0, 0));
        Check.dueThrow(x, "addCall(0, 0, 8, 0)", INDEX, () -> x.addCall(0, 0, 8, 0));
        Check.due("addCall(1, 0, 0, 1), of another method", 0, x.addCall(1, 0, 0, 1));
        Check.dueThrow(x, "addCall(0, 0, 0, 1) still", STATE, () -> x.addCall(0, 0, 0, 1));
        x.plan(0);
        Check.due("siteCount(0)", 8, x.siteCount(0));
    }

    /** 240 sites: those of one method do not stand in the way of another's. */
    private static void allSitesOfAllMethods() {
        InlinePlanner x = thirty();
        for (int site = 0; site < 8; site++) {
            for (int m = 0; m < 30; m++) {
                Check.due("addCall()", site, x.addCall(m, 0, site, 1 + (m + site) % 20));
            }
        }
        for (int m = 0; m < 30; m++) {
            x.plan(m);
            LongStream.Builder numbers = LongStream.builder();
            for (long n : new long[] {4, -1, 1, 0, 1, 0, 1, 0, 1, 30, 200, 4, 1, 1, m, -1}) {
                numbers.add(n);
            }
            for (int site = 0; site < 8; site++) {
                // Three or four classes have methods for each selector: several targets.
                numbers.add(2).add(1 + (m + site) % 20);
            }
            Check.due("digest() of the plan for " + m, Check.digestOf(numbers.build().toArray()), x.digest());
        }
    }

    // Promise 10. "Returns the number of methods."

    private static void countsNoneToThirty() {
        InlinePlanner x = States.fan();
        for (int m = 0; m < 30; m++) {
            Check.due("methodCount()", m, x.methodCount());
            Check.dueThrow(x, "addMethod(0, 0, 0)", ARGUMENT, () -> x.addMethod(0, 0, 0));
            Check.due("methodCount() behind a refused call", m, x.methodCount());
            x.addMethod(m % 16, m / 16, 1);
        }
        Check.due("methodCount()", 30, x.methodCount());
        Check.dueThrow(x, "addMethod(0, 7, 1)", STATE, () -> x.addMethod(0, 7, 1));
        Check.due("methodCount() behind a refused call", 30, x.methodCount());
    }

    // Promise 11. "The one of the class itself, otherwise the one found for its parent; for class 0, none."

    private static void foundNone() {
        InlinePlanner x = States.chain();
        x.addMethod(15, 0, 1);
        for (int c = 0; c < 15; c++) {
            Check.due("found(" + c + ", 0)", -1, x.found(c, 0));
        }
        Check.due("found(15, 1), another selector", -1, x.found(15, 1));
    }

    private static void foundInItself() {
        InlinePlanner x = States.chain();
        for (int c = 0; c < 16; c++) {
            x.addMethod(c, 7, 1);
        }
        for (int c = 0; c < 16; c++) {
            Check.due("found(" + c + ", 7)", c, x.found(c, 7));
        }
    }

    private static void foundAtTheEndOfChain() {
        InlinePlanner x = States.chain();
        x.addMethod(0, 3, 1);
        for (int c = 0; c < 16; c++) {
            Check.due("found(" + c + ", 3)", 0, x.found(c, 3));
        }
        x.addMethod(14, 3, 1);
        Check.due("found(13, 3)", 0, x.found(13, 3));
        Check.due("found(14, 3)", 1, x.found(14, 3));
        Check.due("found(15, 3), the nearest one", 1, x.found(15, 3));
    }

    private static void foundOnlyAbove() {
        InlinePlanner x = States.fan();
        x.addMethod(8, 3, 1);
        for (int c = 0; c < 16; c++) {
            Check.due("found(" + c + ", 3)", c == 8 ? 0 : -1, x.found(c, 3));
        }
    }

    private static void foundForEachSelector() {
        InlinePlanner x = thirty();
        for (int selector = 0; selector < 8; selector++) {
            for (int c = 0; c < 4; c++) {
                int want = c == 3 && selector > 5 ? selector : c * 8 + selector;
                Check.due("found(" + c + ", " + selector + ")", want, x.found(c, selector));
            }
        }
    }

    private static void foundWhetherLiveOrNot() {
        InlinePlanner x = new InlinePlanner();
        x.addMethod(0, 0, 1);
        Check.due("found(0, 0), not live", 0, x.found(0, 0));
        x.setLive(0, true);
        Check.due("found(0, 0), live", 0, x.found(0, 0));
    }

    private static void foundForNoClassOrSelector() {
        for (InlinePlanner x : new InlinePlanner[] {new InlinePlanner(), States.fan()}) {
            int none = x.classCount();
            Check.due("found(last, 7)", -1, x.found(none - 1, 7));
            Check.due("found(0, 0)", -1, x.found(0, 0));
            Check.dueThrow(x, "found(-1, 0)", INDEX, () -> x.found(-1, 0));
            Check.dueThrow(x, "found(" + none + ", 0)", INDEX, () -> x.found(none, 0));
            Check.dueThrow(x, "found(0, -1)", INDEX, () -> x.found(0, -1));
            Check.dueThrow(x, "found(0, 8)", INDEX, () -> x.found(0, 8));
        }
    }

    // Promise 12. "The methods that are found with this selector for the live classes that are below the receiver."

    private static void noLiveClassNoTarget() {
        InlinePlanner x = States.chain();
        x.addMethod(0, 0, 1);
        for (int c = 0; c < 16; c++) {
            Check.due("targetCount(" + c + ", 0)", 0, x.targetCount(c, 0));
        }
    }

    private static void noMethodNoTarget() {
        InlinePlanner x = States.chain();
        for (int c = 0; c < 16; c++) {
            x.setLive(c, true);
        }
        x.addMethod(15, 1, 1);
        Check.due("targetCount(0, 0), no method at all", 0, x.targetCount(0, 0));
        x.setLive(15, false);
        Check.due("targetCount(0, 1), none found for the live ones", 0, x.targetCount(0, 1));
        x.setLive(15, true);
        Check.due("targetCount(0, 1)", 1, x.targetCount(0, 1));
    }

    private static void targetOfReceiverItself() {
        InlinePlanner x = new InlinePlanner();
        x.addMethod(0, 7, 1);
        x.setLive(0, true);
        Check.due("targetCount(0, 7)", 1, x.targetCount(0, 7));
        Check.due("target(0, 7, 0)", 0, x.target(0, 7, 0));
    }

    private static void targetsOnlyBelow() {
        InlinePlanner x = States.chain();
        x.addMethod(0, 0, 1);
        x.addMethod(8, 0, 1);
        x.setLive(7, true);
        Check.due("targetCount(7, 0)", 1, x.targetCount(7, 0));
        Check.due("target(7, 0, 0), found above the receiver", 0, x.target(7, 0, 0));
        Check.due("targetCount(8, 0), live above only", 0, x.targetCount(8, 0));
        x.setLive(15, true);
        Check.due("targetCount(8, 0)", 1, x.targetCount(8, 0));
        Check.due("target(15, 0, 0), the last class", 1, x.target(15, 0, 0));
        InlinePlanner y = States.fan();
        y.addMethod(0, 0, 1);
        y.setLive(7, true);
        Check.due("targetCount(6, 0), live beside it", 0, y.targetCount(6, 0));
        Check.due("targetCount(8, 0), live beside it", 0, y.targetCount(8, 0));
    }

    private static void sameTargetOnce() {
        InlinePlanner x = States.fan();
        x.addMethod(0, 0, 1);
        for (int c = 0; c < 16; c++) {
            x.setLive(c, true);
            Check.due("targetCount(0, 0), one for all", 1, x.targetCount(0, 0));
        }
        Check.due("target(0, 0, 0)", 0, x.target(0, 0, 0));
        Check.dueThrow(x, "target(0, 0, 1)", ELEMENT, () -> x.target(0, 0, 1));
    }

    private static void sixteenTargets() {
        InlinePlanner x = States.chain();
        for (int c = 0; c < 16; c++) {
            x.setLive(c, true);
            x.addMethod(c, 5, 1);
        }
        for (int c = 0; c < 16; c++) {
            Check.due("targetCount(" + c + ", 5)", 16 - c, x.targetCount(c, 5));
        }
        for (int index = 0; index < 16; index++) {
            Check.due("target(0, 5, " + index + ")", index, x.target(0, 5, index));
        }
        Check.dueThrow(x, "target(0, 5, 16)", ELEMENT, () -> x.target(0, 5, 16));
    }

    // Promise 13. "An index among their targets, in ascending order, from 0."

    private static void targetsAscend() {
        InlinePlanner x = States.fan();
        for (int m = 0; m < 14; m++) {
            x.addMethod(15 - m, 1, 1);
        }
        for (int m = 14; m < 30; m++) {
            x.addMethod(29 - m, 0, 1);
        }
        for (int c = 0; c < 16; c++) {
            x.setLive(c, true);
        }
        for (int index = 0; index < 16; index++) {
            Check.due("target(0, 0, " + index + ")", 14 + index, x.target(0, 0, index));
        }
        Check.due("target(0, 0, 15), the last method", 29, x.target(0, 0, 15));
        x.setLive(14, false);
        Check.due("target(0, 0, 0), one is gone", 14, x.target(0, 0, 0));
        Check.due("target(0, 0, 1), one is gone", 16, x.target(0, 0, 1));
    }

    private static void targetOfNoIndex() {
        InlinePlanner x = States.fan();
        x.addMethod(0, 0, 1);
        x.addMethod(1, 0, 1);
        Check.dueThrow(x, "target(0, 0, 0) of none", ELEMENT, () -> x.target(0, 0, 0));
        Check.dueThrow(x, "target(0, 0, -1) of none", ELEMENT, () -> x.target(0, 0, -1));
        x.setLive(1, true);
        Check.due("target(0, 0, 0) of one", 1, x.target(0, 0, 0));
        Check.dueThrow(x, "target(0, 0, 1) of one", ELEMENT, () -> x.target(0, 0, 1));
        Check.dueThrow(x, "target(0, 0, -1) of one", ELEMENT, () -> x.target(0, 0, -1));
        x.setLive(2, true);
        Check.due("target(0, 0, 1) of two", 1, x.target(0, 0, 1));
        for (int bad : new int[] {2, 30, 32, Integer.MAX_VALUE, -1, -2, Integer.MIN_VALUE}) {
            Check.dueThrow(x, "target(0, 0, " + bad + ") of two", ELEMENT, () -> x.target(0, 0, bad));
        }
    }

    private static void targetsOfNoClassOrSelector() {
        for (InlinePlanner x : new InlinePlanner[] {new InlinePlanner(), States.fan()}) {
            int none = x.classCount();
            Check.due("targetCount(last, 7)", 0, x.targetCount(none - 1, 7));
            int[][] bad = {{-1, 0}, {none, 0}, {0, -1}, {0, 8}, {none, 8}};
            for (int[] b : bad) {
                Check.dueThrow(x, Calls.text(Calls.TARGET_COUNT, b[0], b[1]), INDEX, () -> x.targetCount(b[0], b[1]));
                Check.dueThrow(x, Calls.text(Calls.TARGET, b[0], b[1], 0), INDEX, () -> x.target(b[0], b[1], 0));
                Check.dueThrow(x, Calls.text(Calls.TARGET, b[0], b[1], -1), INDEX, () -> x.target(b[0], b[1], -1));
            }
            Check.dueThrow(x, "target(last, 7, 0)", ELEMENT, () -> x.target(none - 1, 7, 0));
        }
    }

    // Promise 14. "Itself, and all targets of the sites of methods that can be reached."

    private static void reachesItself() {
        InlinePlanner x = thirty();
        for (int m = 0; m < 30; m++) {
            Check.due("reached(" + m + "), no sites", 1 << m, x.reached(m));
        }
    }

    /** Method 29 is the last one: the greatest sum is 2^30 - 1. */
    private static void reachesAll() {
        InlinePlanner x = thirty();
        // Each calls the next one; methods 0 to 6 reach those of the other classes for its selector, too.
        for (int m = 0; m < 29; m++) {
            x.addCall(m, (m + 1) / 8, (m + 1) % 8, 1);
        }
        Check.due("reached(0)", 1073741823, x.reached(0));
        Check.due("reached(28)", 1 << 28 | 1 << 29, x.reached(28));
        Check.due("reached(29)", 536870912, x.reached(29));
        Check.due("reached(24)", 0x3f000000, x.reached(24));
    }

    /** From the first to the last site: each of the eight has a target of its own. */
    private static void reachesByEachSite() {
        InlinePlanner x = States.row(30, 1);
        for (int site = 0; site < 8; site++) {
            States.call(x, 0, 22 + site, 1);
            Check.due("reached(0) by sites: " + (site + 1), 1 | (2 << site) - 1 << 22, x.reached(0));
        }
    }

    private static void reachesRoundCircle() {
        InlinePlanner x = new InlinePlanner();
        x.setLive(0, true);
        for (int m = 0; m < 8; m++) {
            x.addMethod(0, m, 1);
        }
        for (int m = 0; m < 8; m++) {
            x.addCall(m, 0, (m + 1) % 8, 1);
        }
        for (int m = 0; m < 8; m++) {
            Check.due("reached(" + m + ")", 255, x.reached(m));
        }
        x.addMethod(x.addClass(0), 0, 1);
        x.addCall(8, 0, 0, 1);
        Check.due("reached(8), which nothing reaches", 511, x.reached(8));
        Check.due("reached(0)", 255, x.reached(0));
    }

    private static void reachesOnlyThroughTargets() {
        InlinePlanner x = new InlinePlanner();
        x.addMethod(0, 0, 1);
        x.addMethod(0, 1, 1);
        for (int site = 0; site < 7; site++) {
            x.addCall(0, 0, 2, 1);
        }
        x.addCall(0, 0, 1, 1);
        Check.due("reached(0), nothing is live", 1, x.reached(0));
        x.setLive(0, true);
        Check.due("reached(0), through the last site", 3, x.reached(0));
        Check.due("reached(1)", 2, x.reached(1));
        x.addMethod(x.addClass(0), 1, 1);
        x.setLive(1, true);
        Check.due("reached(0), two targets", 7, x.reached(0));
    }

    private static void reachedFromNoMethod() {
        InlinePlanner x = new InlinePlanner();
        Check.dueThrow(x, "reached(0) without a method", INDEX, () -> x.reached(0));
        x.addMethod(0, 0, 1);
        Check.due("reached(0)", 1, x.reached(0));
        Check.dueThrow(x, "reached(1)", INDEX, () -> x.reached(1));
        Check.dueThrow(x, "reached(-1)", INDEX, () -> x.reached(-1));
        InlinePlanner y = thirty();
        Check.dueThrow(y, "reached(30)", INDEX, () -> y.reached(30));
        Check.dueThrow(y, "reached(31)", INDEX, () -> y.reached(31));
        Check.dueThrow(y, "reached(32)", INDEX, () -> y.reached(32));
    }
}
