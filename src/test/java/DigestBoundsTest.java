import java.math.BigInteger;
import java.util.ArrayList;
import java.util.List;

/** Promise 32, sentence by sentence: what is counted, in which order, and that it wraps around. */
public final class DigestBoundsTest {
    private static final BigInteger LONGS = BigInteger.ONE.shiftLeft(64);
    private static final BigInteger GREATEST = BigInteger.valueOf(Long.MAX_VALUE);

    public static void main(String[] args) {
        newObject();
        lastBeforeWrapping();
        firstThatWraps();
        wrapsToNegative();
        smallestPlan();
        mostNumbers();
        classesCount();
        methodsCountByNumberOnly();
        limitsCount();
        sitesCountInPlansOnly();
        noPlanNoNodes();
        questionsDoNotCount();
        Check.end();
    }

    /** The checksum without a bound, as it is before it wraps around. */
    private static BigInteger unbounded(List<Long> numbers) {
        BigInteger d = BigInteger.valueOf(89);
        for (long x : numbers) {
            d = d.multiply(BigInteger.valueOf(31)).add(BigInteger.valueOf(x));
        }
        return d;
    }

    /** The one number of 64 bits, with its sign, that is equal to it but for multiples of 2^64. */
    private static long wrapped(BigInteger d) {
        BigInteger rest = d.mod(LONGS);
        return (rest.compareTo(GREATEST) > 0 ? rest.subtract(LONGS) : rest).longValueExact();
    }

    /** The numbers that the document lists, as the object's other answers tell them. */
    private static List<Long> numbers(InlinePlanner x, int[] live, int... limits) {
        List<Long> all = new ArrayList<>();
        all.add((long) x.classCount());
        for (int c = 0; c < x.classCount(); c++) {
            all.add((long) x.parent(c));
            all.add((long) live[c]);
        }
        all.add((long) x.methodCount());
        for (int limit : limits) {
            all.add((long) limit);
        }
        return all;
    }

    private static void addNode(List<Long> all, InlinePlanner x, int node) {
        all.add((long) x.method(node));
        all.add((long) x.parentNode(node));
        for (int site = 0; site < x.siteCount(node); site++) {
            all.add((long) x.verdict(node, site));
            all.add((long) x.weight(node, site));
        }
    }

    private static void newObject() {
        // 89, 2760, 85559, 2652329, 82222199, 2548888369, 79015539443, 2449481722734
        Check.due("digest() of a new object", 2449481722734L, new InlinePlanner().digest());
    }

    /** With three classes and no plan there are 11 numbers, and the checksum is below 2^63. */
    private static void lastBeforeWrapping() {
        InlinePlanner x = new InlinePlanner();
        x.addClass(0);
        x.addClass(1);
        x.setLive(2, true);
        BigInteger d = unbounded(numbers(x, new int[] {0, 0, 1}, 200, 4, 1));
        Check.due("it does not wrap around", true, d.compareTo(GREATEST) <= 0);
        Check.due("digest()", d.longValueExact(), x.digest());
    }

    private static void firstThatWraps() {
        InlinePlanner x = new InlinePlanner();
        x.addClass(0);
        x.addClass(1);
        x.addClass(2);
        BigInteger d = unbounded(numbers(x, new int[4], 200, 4, 1));
        Check.due("it wraps around", true, d.compareTo(LONGS) > 0);
        Check.due("digest()", wrapped(d), x.digest());
    }

    private static void wrapsToNegative() {
        int negative = 0;
        int positive = 0;
        InlinePlanner x = new InlinePlanner();
        int[] live = new int[16];
        for (int c = 1; c < 16; c++) {
            x.addClass(c / 2);
            x.setLive(c, c % 3 == 0);
            live[c] = c % 3 == 0 ? 1 : 0;
            long want = wrapped(unbounded(numbers(x, live, 200, 4, 1)));
            Check.due("digest() of classes: " + (c + 1), want, x.digest());
            negative += want < 0 ? 1 : 0;
            positive += want < 0 ? 0 : 1;
        }
        Check.due("some are negative", true, negative > 0);
        Check.due("some are not negative", true, positive > 0);
    }

    private static void smallestPlan() {
        InlinePlanner x = States.smallest();
        List<Long> all = numbers(x, new int[1], 200, 4, 1);
        all.addAll(List.of(1L, 0L, -1L));
        Check.due("digest()", wrapped(unbounded(all)), x.digest());
    }

    /** 16 classes, and 50 nodes with 8 sites each. */
    private static void mostNumbers() {
        int[] live = new int[16];
        for (int c = 1; c < 16; c += 2) {
            live[c] = 1;
        }
        List<Long> all = numbers(States.full(), live, 1330, 5, 1);
        all.add(50L);
        for (int node = 0; node < 50; node++) {
            // A new object for each, which is not asked more than 512 times.
            addNode(all, States.full(), node);
        }
        Check.due("numbers", 1 + 32 + 4 + 1 + 50 * 18, all.size());
        Check.due("digest()", wrapped(unbounded(all)), States.full().digest());
    }

    private static void classesCount() {
        InlinePlanner x = new InlinePlanner();
        x.addClass(0);
        x.addClass(0);
        InlinePlanner y = new InlinePlanner();
        y.addClass(0);
        y.addClass(1);
        Check.due("digest() with other parents", false, x.digest() == y.digest());
        Check.due("digest()", Check.digestOf(3, -1, 0, 0, 0, 0, 0, 0, 200, 4, 1), x.digest());
        Check.due("digest()", Check.digestOf(3, -1, 0, 0, 0, 1, 0, 0, 200, 4, 1), y.digest());
        x.setLive(0, true);
        Check.due("digest()", Check.digestOf(3, -1, 1, 0, 0, 0, 0, 0, 200, 4, 1), x.digest());
        x.setLive(2, true);
        Check.due("digest()", Check.digestOf(3, -1, 1, 0, 0, 0, 1, 0, 200, 4, 1), x.digest());
        x.setLive(0, false);
        Check.due("digest()", Check.digestOf(3, -1, 0, 0, 0, 0, 1, 0, 200, 4, 1), x.digest());
    }

    private static void methodsCountByNumberOnly() {
        InlinePlanner x = new InlinePlanner();
        x.addMethod(0, 0, 1);
        InlinePlanner y = new InlinePlanner();
        y.addMethod(0, 7, 100);
        Check.due("digest()", Check.digestOf(1, -1, 0, 1, 200, 4, 1), x.digest());
        Check.due("digest(), of another selector and size", x.digest(), y.digest());
    }

    private static void limitsCount() {
        int[][] limits = {{1, 0, 0}, {5000, 10, 5}, {1, 10, 0}, {5000, 0, 5}};
        for (int[] l : limits) {
            InlinePlanner x = new InlinePlanner();
            x.setLimits(l[0], l[1], l[2]);
            Check.due("digest()", Check.digestOf(1, -1, 0, 0, l[0], l[1], l[2]), x.digest());
        }
    }

    private static void sitesCountInPlansOnly() {
        InlinePlanner x = States.flat(1, 1);
        Check.due("digest()", Check.digestOf(1, -1, 1, 2, 200, 4, 1), x.digest());
        x.addCall(0, 0, 1, 20);
        x.addCall(0, 0, 7, 3);
        Check.due("digest()", Check.digestOf(1, -1, 1, 2, 200, 4, 1), x.digest());
        x.plan(0);
        Check.due("digest()", Check.digestOf(1, -1, 1, 2, 200, 4, 1, 2, 0, -1, 0, 20, 1, 3, 1, 0), x.digest());
        x.setLive(0, false);
        x.prune();
        Check.due("digest()", Check.digestOf(1, -1, 0, 2, 200, 4, 1, 1, 0, -1, 7, 20, 1, 3), x.digest());
    }

    private static void noPlanNoNodes() {
        InlinePlanner x = States.smallest();
        Check.due("digest() with a plan", Check.digestOf(1, -1, 0, 1, 200, 4, 1, 1, 0, -1), x.digest());
        x.setLimits(200, 4, 1);
        Check.due("digest() without it", Check.digestOf(1, -1, 0, 1, 200, 4, 1), x.digest());
    }

    private static void questionsDoNotCount() {
        InlinePlanner x = States.broken();
        long before = x.digest();
        for (int[] question : new int[][] {{Calls.CLASS_COUNT}, {Calls.PARENT, 0}, {Calls.IS_BELOW, 0, 0},
            {Calls.LIVE_BELOW, 0}, {Calls.METHOD_COUNT}, {Calls.FOUND, 0, 0}, {Calls.TARGET_COUNT, 0, 0},
            {Calls.TARGET, 0, 0, 0}, {Calls.REACHED, 0}, {Calls.HAS_PLAN}, {Calls.NODE_COUNT}, {Calls.SIZE},
            {Calls.METHOD, 0}, {Calls.PARENT_NODE, 0}, {Calls.SITE_OF, 0}, {Calls.DEPTH, 0}, {Calls.SITE_COUNT, 0},
            {Calls.VERDICT, 0, 0}, {Calls.WEIGHT, 0, 0}, {Calls.WEIGHT_OF, 0}, {Calls.SHARE}, {Calls.HOLDS, 0},
            {Calls.FIRST_BROKEN}, {Calls.DIGEST}}) {
            Calls.answer(x, question);
            Check.due("digest() behind " + Calls.text(question), before, x.digest());
        }
    }
}
