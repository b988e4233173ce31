import java.util.ArrayList;
import java.util.Comparator;
import java.util.List;
import java.util.NoSuchElementException;
import java.util.TreeSet;

/** The document once more, word by word and with no thought of speed, to compare the program with. */
final class PlainModel {
    static final class Site {
        int receiver;
        int selector;
        int frequency;
    }

    static final class Meth {
        int owner;
        int selector;
        int size;
        final List<Site> sites = new ArrayList<>();
    }

    static final class Node {
        int method;
        Node parent;
        int site;
        int weight;
        final List<Integer> verdicts = new ArrayList<>();
        final List<Integer> weights = new ArrayList<>();

        int depth() {
            return parent == null ? 0 : parent.depth() + 1;
        }

        int copies(int m) {
            return (method == m ? 1 : 0) + (parent == null ? 0 : parent.copies(m));
        }
    }

    static final class Candidate {
        Node node;
        int number;
        int site;
        int target;
        int merit;
    }

    private final List<Integer> parents = new ArrayList<>(List.of(-1));
    private final List<Boolean> live = new ArrayList<>(List.of(false));
    private final List<Meth> methods = new ArrayList<>();
    private int budget = 200;
    private int maxDepth = 4;
    private int recursion = 1;
    private List<Node> nodes = null;
    private List<Candidate> candidates = new ArrayList<>();

    /** The call with the number of its method in the document's face, from 2 to 32; a boolean counts 1 or 0. */
    double call(int promise, int a, int b, int c, int d) {
        switch (promise) {
            case 2: return addClass(a);
            case 3: return bit(setLive(a, b != 0));
            case 4: return parents.size();
            case 5: classes(a); return parents.get(a);
            case 6: classes(a, b); return bit(below(a, b));
            case 7: return liveBelow(a);
            case 8: return addMethod(a, b, c);
            case 9: return addCall(a, b, c, d);
            case 10: return methods.size();
            case 11: classes(a); selector(b); return found(a, b);
            case 12: classes(a); selector(b); return targets(a, b).size();
            case 13: return target(a, b, c);
            case 14: return reached(a);
            case 15: return bit(setLimits(a, b, c));
            case 16: return plan(a);
            case 17: return bit(nodes != null);
            case 18: plan(); return nodes.size();
            case 19: plan(); return nodes.stream().mapToInt(n -> methods.get(n.method).size).sum();
            case 20: return node(a).method;
            case 21: return number(node(a).parent);
            case 22: return node(a).site;
            case 23: return node(a).depth();
            case 24: return node(a).verdicts.size();
            case 25: return of(node(a).verdicts, b);
            case 26: return of(node(a).weights, b);
            case 27: return weightOf(a);
            case 28: return share();
            case 29: return bit(holds(node(a)));
            case 30: return firstBroken();
            case 31: return prune();
            default: throw new AssertionError("no promise " + promise);
        }
    }

    private static int bit(boolean b) {
        return b ? 1 : 0;
    }

    private static void index(boolean good) {
        if (!good) {
            throw new IndexOutOfBoundsException();
        }
    }

    private static void argument(boolean good) {
        if (!good) {
            throw new IllegalArgumentException();
        }
    }

    private static void state(boolean good) {
        if (!good) {
            throw new IllegalStateException();
        }
    }

    private void classes(int... cs) {
        for (int c : cs) {
            index(c >= 0 && c < parents.size());
        }
    }

    private void selector(int s) {
        index(s >= 0 && s <= 7);
    }

    private void methodNumber(int m) {
        index(m >= 0 && m < methods.size());
    }

    private void plan() {
        state(nodes != null);
    }

    private Node node(int n) {
        plan();
        index(n >= 0 && n < nodes.size());
        return nodes.get(n);
    }

    private static int of(List<Integer> row, int site) {
        index(site >= 0 && site < row.size());
        return row.get(site);
    }

    private int addClass(int parent) {
        classes(parent);
        state(parents.size() < 16);
        parents.add(parent);
        live.add(false);
        return parents.size() - 1;
    }

    private boolean setLive(int c, boolean isLive) {
        classes(c);
        return live.set(c, isLive);
    }

    private boolean below(int c, int d) {
        return c == d || parents.get(c) >= 0 && below(parents.get(c), d);
    }

    private int liveBelow(int c) {
        classes(c);
        int sum = 0;
        for (int d = 0; d < parents.size(); d++) {
            sum += bit(live.get(d) && below(d, c));
        }
        return sum;
    }

    private int own(int c, int selector) {
        for (int m = 0; m < methods.size(); m++) {
            if (methods.get(m).owner == c && methods.get(m).selector == selector) {
                return m;
            }
        }
        return -1;
    }

    private int addMethod(int c, int selector, int size) {
        classes(c);
        selector(selector);
        argument(size >= 1 && size <= 100 && own(c, selector) < 0);
        state(methods.size() < 30);
        Meth m = new Meth();
        m.owner = c;
        m.selector = selector;
        m.size = size;
        methods.add(m);
        return methods.size() - 1;
    }

    private int addCall(int method, int receiver, int selector, int frequency) {
        methodNumber(method);
        classes(receiver);
        selector(selector);
        argument(frequency >= 1 && frequency <= 20);
        List<Site> sites = methods.get(method).sites;
        state(sites.size() < 8);
        Site s = new Site();
        s.receiver = receiver;
        s.selector = selector;
        s.frequency = frequency;
        sites.add(s);
        nodes = null;
        return sites.size() - 1;
    }

    private int found(int c, int selector) {
        int m = own(c, selector);
        return m >= 0 || c == 0 ? m : found(parents.get(c), selector);
    }

    private TreeSet<Integer> targets(int receiver, int selector) {
        TreeSet<Integer> all = new TreeSet<>();
        for (int c = 0; c < parents.size(); c++) {
            if (live.get(c) && below(c, receiver) && found(c, selector) >= 0) {
                all.add(found(c, selector));
            }
        }
        return all;
    }

    private TreeSet<Integer> targets(Site s) {
        return targets(s.receiver, s.selector);
    }

    private int target(int receiver, int selector, int index) {
        classes(receiver);
        selector(selector);
        List<Integer> all = new ArrayList<>(targets(receiver, selector));
        if (index < 0 || index >= all.size()) {
            throw new NoSuchElementException();
        }
        return all.get(index);
    }

    private int reached(int method) {
        methodNumber(method);
        TreeSet<Integer> all = new TreeSet<>();
        visit(method, all);
        int sum = 0;
        for (int m : all) {
            sum += 1 << m;
        }
        return sum;
    }

    private void visit(int method, TreeSet<Integer> all) {
        if (all.add(method)) {
            for (Site s : methods.get(method).sites) {
                for (int m : targets(s)) {
                    visit(m, all);
                }
            }
        }
    }

    private boolean setLimits(int newBudget, int newDepth, int newRecursion) {
        argument(newBudget >= 1 && newBudget <= 5000);
        argument(newDepth >= 0 && newDepth <= 10);
        argument(newRecursion >= 0 && newRecursion <= 5);
        boolean other = newBudget != budget || newDepth != maxDepth || newRecursion != recursion;
        budget = newBudget;
        maxDepth = newDepth;
        recursion = newRecursion;
        nodes = null;
        return other;
    }

    private int plan(int method) {
        methodNumber(method);
        nodes = new ArrayList<>();
        candidates = new ArrayList<>();
        make(method, null, -1, 1);
        while (!candidates.isEmpty()) {
            Candidate best = candidates.stream().min(Comparator.comparingInt((Candidate k) -> -k.merit)
                .thenComparingInt(k -> k.number).thenComparingInt(k -> k.site)).get();
            candidates.remove(best);
            int size = nodes.stream().mapToInt(n -> methods.get(n.method).size).sum();
            if (size + methods.get(best.target).size > budget) {
                best.node.verdicts.set(best.site, 5);
            } else if (nodes.size() == 50) {
                best.node.verdicts.set(best.site, 6);
            } else {
                best.node.verdicts.set(best.site, 0);
                make(best.target, best.node, best.site, best.node.weights.get(best.site));
            }
        }
        return nodes.size();
    }

    private void make(int method, Node parent, int site, int weight) {
        Node n = new Node();
        n.method = method;
        n.parent = parent;
        n.site = site;
        n.weight = weight;
        nodes.add(n);
        for (Site s : methods.get(method).sites) {
            n.weights.add((int) Math.min(1000000L, (long) weight * s.frequency));
            n.verdicts.add(early(n, s));
            if (n.verdicts.get(n.verdicts.size() - 1) < 0) {
                Candidate k = new Candidate();
                k.node = n;
                k.number = nodes.size() - 1;
                k.site = n.verdicts.size() - 1;
                k.target = targets(s).first();
                k.merit = (int) (1000L * n.weights.get(k.site) / methods.get(k.target).size);
                candidates.add(k);
            }
        }
    }

    private int early(Node n, Site s) {
        TreeSet<Integer> all = targets(s);
        if (all.isEmpty()) {
            return 1;
        }
        if (all.size() >= 2) {
            return 2;
        }
        if (!(n.depth() < maxDepth)) {
            return 3;
        }
        return n.copies(all.first()) > recursion ? 4 : -1;
    }

    private int number(Node n) {
        return nodes.indexOf(n);
    }

    private long weightOf(int verdict) {
        plan();
        index(verdict >= 0 && verdict <= 7);
        long sum = 0;
        for (Node n : nodes) {
            for (int site = 0; site < n.verdicts.size(); site++) {
                sum += n.verdicts.get(site) == verdict ? n.weights.get(site) : 0;
            }
        }
        return sum;
    }

    private double share() {
        plan();
        long all = 0;
        for (int verdict = 0; verdict <= 7; verdict++) {
            all += weightOf(verdict);
        }
        return all == 0 ? 1.0 : (double) weightOf(0) / all;
    }

    private boolean holds(Node n) {
        if (n.parent == null) {
            return true;
        }
        TreeSet<Integer> all = targets(methods.get(n.parent.method).sites.get(n.site));
        return all.size() == 1 && all.first() == n.method;
    }

    private int firstBroken() {
        plan();
        for (Node n : nodes) {
            if (!holds(n)) {
                return number(n);
            }
        }
        return -1;
    }

    private boolean isLeft(Node n) {
        return n == null || holds(n) && isLeft(n.parent);
    }

    private int prune() {
        plan();
        List<Node> left = new ArrayList<>();
        for (Node n : nodes) {
            if (isLeft(n)) {
                left.add(n);
            } else {
                n.parent.verdicts.set(n.site, 7);
            }
        }
        int removed = nodes.size() - left.size();
        nodes = left;
        return removed;
    }

    long digest() {
        List<Long> all = new ArrayList<>();
        all.add((long) parents.size());
        for (int c = 0; c < parents.size(); c++) {
            all.add((long) parents.get(c));
            all.add((long) bit(live.get(c)));
        }
        all.addAll(List.of((long) methods.size(), (long) budget, (long) maxDepth, (long) recursion));
        if (nodes != null) {
            all.add((long) nodes.size());
            for (Node n : nodes) {
                all.add((long) n.method);
                all.add((long) number(n.parent));
                for (int site = 0; site < n.verdicts.size(); site++) {
                    all.add((long) n.verdicts.get(site));
                    all.add((long) n.weights.get(site));
                }
            }
        }
        return Check.digestOf(all.stream().mapToLong(x -> x).toArray());
    }
}
