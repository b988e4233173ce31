import java.util.function.LongSupplier;

/** Compares answers with those that are due, and ends a test with exit code 1 if one was wrong. */
final class Check {
    private static int wrong = 0;

    private Check() {
    }

    static void due(String call, long want, long got) {
        if (got != want) {
            report(call + " answered " + got + ", due is " + want);
        }
    }

    static void due(String call, boolean want, boolean got) {
        due(call, want ? 1 : 0, got ? 1 : 0);
    }

    static void dueDouble(String call, double want, double got) {
        if (Double.compare(want, got) != 0) {
            report(call + " answered " + got + ", due is " + want);
        }
    }

    static void dueText(String call, String want, String got) {
        if (!got.equals(want)) {
            report(call + " answered " + got + ", due is " + want);
        }
    }

    /** The call throws exactly this exception, and nothing changes that the checksum sees. */
    static void dueThrow(InlinePlanner x, String call, Class<? extends RuntimeException> want, LongSupplier run) {
        long before = x.digest();
        String got = "nothing";
        try {
            run.getAsLong();
        } catch (RuntimeException e) {
            got = e.getClass().getName();
        }
        if (!got.equals(want.getName())) {
            report(call + " threw " + got + ", due is " + want.getName());
        }
        due("digest() behind " + call, before, x.digest());
    }

    static void dueNode(InlinePlanner x, int node, int method, int parent, int site, int depth) {
        due("method(" + node + ")", method, x.method(node));
        due("parentNode(" + node + ")", parent, x.parentNode(node));
        due("siteOf(" + node + ")", site, x.siteOf(node));
        due("depth(" + node + ")", depth, x.depth(node));
    }

    static void dueVerdicts(InlinePlanner x, int node, int... verdicts) {
        due("siteCount(" + node + ")", verdicts.length, x.siteCount(node));
        for (int site = 0; site < verdicts.length; site++) {
            due("verdict(" + node + ", " + site + ")", verdicts[site], x.verdict(node, site));
        }
    }

    /** As the document tells it: d starts with 89 and becomes d * 31 + x for each number x. */
    static long digestOf(long... numbers) {
        long d = 89;
        for (long x : numbers) {
            d = d * 31 + x;
        }
        return d;
    }

    static void report(String text) {
        wrong++;
        System.out.println(text);
    }

    static void end() {
        if (wrong != 0) {
            System.out.println(wrong + " answers are not as due");
            System.exit(1);
        }
    }
}
