/** Promise 20, and promises 7, 8 and 9 for the rule CYCLES. */
final class SliceTest {
    private static final Check check = new Check();

    public static void main(String[] args) {
        counting();
        cycles();
        deepCycles();
        longWay();
        noCycles();
        check.end();
    }

    private static void found(String what, PackageRules x, int r, int... classes) {
        check.due(what + ": violations", x.violations(r), classes.length);
        for (int i = 0; i < classes.length; i++) {
            check.due(what + ": violation " + i, x.violation(r, i), 64 * classes[i] + 63);
        }
        check.due(what + ": violation " + classes.length, x.violation(r, classes.length), -1);
        check.due(what + ": violation -1", x.violation(r, -1), -1);
    }

    private static void counting() {
        PackageRules x = new PackageRules();
        String[] names = {"a", "a.b", "a.b.c", "a.b.d", "ab.c", "a.bc.d", "a.b.c.d", "A.b.c", "b", "ab.c.d"};
        int[] one = {0, 1, 1, 1, 2, 2, 2, 3, 3, 3};
        int[] two = {0, 0, 1, 1, 1, 2, 2, 3, 3, 4};
        for (int i = 0; i < names.length; i++) {
            new UnitMaker(names[i]).loadInto(x);
            check.due("slices(1) with " + names[i], x.slices(1), one[i]);
            check.due("slices(2) with " + names[i], x.slices(2), two[i]);
        }
        for (int d : new int[] {-1, 0, 3, Integer.MAX_VALUE, Integer.MIN_VALUE}) {
            check.due("slices(" + d + ")", x.slices(d), -1);
        }
    }

    private static void cycles() {
        PackageRules x = new PackageRules();
        int r = x.rule(3, 1, 0);
        new UnitMaker("Z").extending("b.A").loadInto(x);
        new UnitMaker("a.A").extending("a.B").loadInto(x);
        new UnitMaker("b.A").extending("a.A").loadInto(x);
        new UnitMaker("a.B").method("m").use(UnitMaker.CONST, "b.X").loadInto(x);
        found("b.X is not loaded", x, r);
        new UnitMaker("b.X").loadInto(x);
        found("a and b", x, r, 1, 2);
        new UnitMaker("c.A").with("b.A").loadInto(x);
        found("c is not in it", x, r, 1, 2);
        new UnitMaker("a.A").extending("Z").loadInto(x);
        found("the heads stay", x, r, 1, 2);
        new UnitMaker("b.A").loadInto(x);
        found("no way back", x, r);
        new UnitMaker("b.X").method("m").call("c.A", "w").loadInto(x);
        found("b and c", x, r, 2, 5);
        check.due("freeze of CYCLES", x.freeze(r), -1);
        found("b and c still", x, r, 2, 5);
    }

    private static void deepCycles() {
        PackageRules x = new PackageRules();
        int one = x.rule(3, 1, 0);
        int two = x.rule(3, 2, 0);
        new UnitMaker("p.a.A").extending("p.b.A").loadInto(x);
        new UnitMaker("p.b.A").with("p.a.A").loadInto(x);
        new UnitMaker("p.c").extending("p.d").loadInto(x);
        new UnitMaker("p.d").extending("p.c").loadInto(x);
        found("depth 1", x, one);
        found("depth 2", x, two, 0, 1);
        // A class that is in no slice at the depth 2 makes no way there.
        new UnitMaker("p.b.A").with("p.c").loadInto(x);
        new UnitMaker("p.c").extending("p.a.A").loadInto(x);
        found("depth 2, over a class without slice", x, two);
    }

    private static void longWay() {
        PackageRules x = new PackageRules();
        int r = x.rule(3, 1, 0);
        for (int i = 0; i < 12; i++) {
            char next = (char) ('a' + (i + 5) % 12);
            new UnitMaker((char) ('a' + i) + ".A").method("m").use(UnitMaker.TEST, next + ".A").loadInto(x);
        }
        found("all twelve", x, r, 0, 1, 2, 3, 4, 5, 6, 7, 8, 9, 10, 11);
        new UnitMaker("g.A").loadInto(x);
        found("cut", x, r);
    }

    private static void noCycles() {
        PackageRules x = new PackageRules();
        int r = x.rule(3, 1, 0);
        new UnitMaker("A").extending("B").loadInto(x);
        new UnitMaker("B").extending("A").loadInto(x);
        found("classes without a slice", x, r);
        new UnitMaker("a.A").extending("a.A").with("a.B").loadInto(x);
        new UnitMaker("a.B").extending("a.A").loadInto(x);
        found("in one slice", x, r);
    }
}
