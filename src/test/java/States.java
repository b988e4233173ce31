/** Objects for tests to begin with. Each is made by at most 310 calls, of the 512 that an object takes. */
final class States {
    private States() {
    }

    static InlinePlanner fresh() {
        return new InlinePlanner();
    }

    /** 16 classes, each the parent of the next. */
    static InlinePlanner chain() {
        InlinePlanner x = new InlinePlanner();
        for (int c = 1; c < 16; c++) {
            x.addClass(c - 1);
        }
        return x;
    }

    /** 16 classes, with class 0 as the parent of all others. */
    static InlinePlanner fan() {
        InlinePlanner x = new InlinePlanner();
        for (int c = 1; c < 16; c++) {
            x.addClass(0);
        }
        return x;
    }

    /** Class 0 is live; method m, of at most 8, has selector m and the m-th of the sizes. */
    static InlinePlanner flat(int... sizes) {
        InlinePlanner x = new InlinePlanner();
        x.setLive(0, true);
        for (int m = 0; m < sizes.length; m++) {
            x.addMethod(0, m, sizes[m]);
        }
        return x;
    }

    /** Methods of this size, at most 30, each the only target of owner(m) and selector m % 8. */
    static InlinePlanner row(int count, int size) {
        InlinePlanner x = new InlinePlanner();
        for (int c = 1; c <= 4; c++) {
            x.setLive(x.addClass(0), true);
        }
        for (int m = 0; m < count; m++) {
            x.addMethod(owner(m), m % 8, size);
        }
        return x;
    }

    static int owner(int m) {
        return 1 + m / 8;
    }

    /** Adds a call of the method as of row's only target. */
    static void call(InlinePlanner x, int from, int to, int frequency) {
        x.addCall(from, owner(to), to % 8, frequency);
    }

    /** One method without sites, and its plan. */
    static InlinePlanner smallest() {
        InlinePlanner x = new InlinePlanner();
        x.addMethod(0, 0, 1);
        x.plan(0);
        return x;
    }

    /**
     * 0 above 1 and 2, 1 above 3; 0, 1 and 2 are live. Methods 0 to 4 for the selectors 0 to 4: 0 and 1 of class 0,
     * 2 of class 1, 3 of class 2, 4 of class 0; method 5 of class 2 for selector 4. There is no plan.
     */
    static InlinePlanner unplanned() {
        InlinePlanner x = new InlinePlanner();
        x.addClass(0);
        x.addClass(0);
        x.addClass(1);
        for (int c = 0; c < 3; c++) {
            x.setLive(c, true);
        }
        int[] owners = {0, 0, 1, 2, 0};
        for (int m = 0; m < 5; m++) {
            x.addMethod(owners[m], m, 10 + m);
        }
        x.addMethod(2, 4, 1);
        x.addCall(0, 1, 1, 2);
        x.addCall(0, 1, 2, 3);
        x.addCall(0, 0, 4, 4);
        x.addCall(0, 3, 4, 5);
        x.addCall(1, 2, 3, 6);
        x.addCall(1, 0, 1, 7);
        x.addCall(2, 1, 0, 8);
        x.setLimits(45, 3, 0);
        return x;
    }

    /** The same with a plan, whose sites have the verdicts inlined, none, several, recursive and dear. */
    static InlinePlanner planned() {
        InlinePlanner x = unplanned();
        x.plan(0);
        return x;
    }

    /** The same when class 3 has a method of its own for selector 2, and is live: one assumption does not hold. */
    static InlinePlanner broken() {
        InlinePlanner x = planned();
        x.addMethod(3, 2, 9);
        x.setLive(3, true);
        return x;
    }

    static InlinePlanner pruned() {
        InlinePlanner x = broken();
        x.prune();
        return x;
    }

    /** 16 classes, 30 methods, 8 sites in each of them, and a plan with 50 nodes for the last method. */
    static InlinePlanner full() {
        InlinePlanner x = new InlinePlanner();
        for (int c = 1; c < 16; c++) {
            x.addClass((c - 1) / 2);
        }
        for (int c = 1; c < 16; c += 2) {
            x.setLive(c, true);
        }
        for (int m = 0; m < 30; m++) {
            x.addMethod(m % 16, (m + m / 16) % 8, 1 + m * 7 % 100);
        }
        for (int m = 0; m < 30; m++) {
            for (int site = 0; site < 8; site++) {
                x.addCall(m, (m * 3 + site * 5) % 16, (m + site) % 8, 1 + (m * 7 + site * 3) % 20);
            }
        }
        x.setLimits(1330, 5, 1);
        x.plan(29);
        return x;
    }
}
