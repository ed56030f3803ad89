/** Promises 7, 8 and 9 for the rules FORBID, ONLY and GUARD. */
final class RuleTest {
    private static final Check check = new Check();

    public static void main(String[] args) {
        refusals();
        forbid();
        only();
        guard();
        wrongNumbers();
        check.end();
    }

    /** The rule's violations are these, in this order. */
    private static void found(String what, PackageRules x, int r, int... want) {
        check.due(what + ": violations", x.violations(r), want.length);
        for (int i = 0; i < want.length; i++) {
            check.due(what + ": violation " + i, x.violation(r, i), want[i]);
        }
        check.due(what + ": violation " + want.length, x.violation(r, want.length), -1);
        check.due(what + ": violation -1", x.violation(r, -1), -1);
    }

    private static void refusals() {
        PackageRules x = new PackageRules();
        check.due("no pattern yet", x.rule(0, 0, 0), -1);
        UnitMaker.pattern(x, "a");
        UnitMaker.pattern(x, "b");
        for (int kind = 0; kind <= 2; kind++) {
            for (int wrong : new int[] {-1, 2, 6, Integer.MAX_VALUE, Integer.MIN_VALUE}) {
                check.due("rule(" + kind + ", " + wrong + ", 0)", x.rule(kind, wrong, 0), -1);
                check.due("rule(" + kind + ", 0, " + wrong + ")", x.rule(kind, 0, wrong), -1);
            }
        }
        for (int kind : new int[] {-1, 4, 5, Integer.MAX_VALUE, Integer.MIN_VALUE}) {
            check.due("rule(" + kind + ", 1, 0)", x.rule(kind, 1, 0), -1);
        }
        for (int d : new int[] {-1, 0, 3, 4, Integer.MAX_VALUE, Integer.MIN_VALUE}) {
            check.due("rule(3, " + d + ", 0)", x.rule(3, d, 0), -1);
        }
        check.due("rule(3, 1, 1)", x.rule(3, 1, 1), -1);
        check.due("rule(3, 2, -1)", x.rule(3, 2, -1), -1);
        check.due("violations(0), still no rule", x.violations(0), -1);
        check.due("rule(3, 2, 0)", x.rule(3, 2, 0), 0);
        check.due("rule(0, 0, 1)", x.rule(0, 0, 1), 1);
        check.due("rule(1, 1, 1)", x.rule(1, 1, 1), 2);
        check.due("rule(2, 1, 0)", x.rule(2, 1, 0), 3);
        check.due("rule(2, 1, 0) again", x.rule(2, 1, 0), 4);
        check.due("a wrong sixth", x.rule(0, 2, 0), -1);
        check.due("rule(3, 1, 0)", x.rule(3, 1, 0), 5);
        check.due("a seventh", x.rule(0, 0, 0), -1);
        check.due("violations(6)", x.violations(6), -1);
    }

    private static void forbid() {
        PackageRules x = new PackageRules();
        int a = UnitMaker.pattern(x, "a.#");
        int any = UnitMaker.pattern(x, "#");
        int b = UnitMaker.pattern(x, "b.*");
        int ab = x.rule(0, a, b);
        int aa = x.rule(0, a, a);
        int all = x.rule(0, any, any);
        found("no class", x, ab);
        new UnitMaker("a.A").extending("b.B").with("a.A", "c.C").method("m", 5).call("b.B", "m").get("b.c.D", "f")
                .call("a.A", "m").use(UnitMaker.NEW, "a.E").use(UnitMaker.CAST, "b.B").use(UnitMaker.TEST, "b.X")
                .use(UnitMaker.CONST, "b.B").set("b.B", "f").loadInto(x);
        new UnitMaker("b.B").extending("b.X").method("m").use(UnitMaker.NEW, "a.A").loadInto(x);
        new UnitMaker("a.x.Y").method("m").call("b.Q", "z").loadInto(x);
        found("a on b", x, ab, 0, 3, 7, 8, 9, 10, 128);
        found("a on a, not on itself", x, aa, 6);
        found("any on any", x, all, 0, 2, 3, 4, 6, 7, 8, 9, 10, 64, 65, 128);
        new UnitMaker("a.A").loadInto(x);
        found("a.A anew", x, ab, 128);
    }

    private static void only() {
        PackageRules x = new PackageRules();
        int inner = UnitMaker.pattern(x, "in.*");
        int friend = UnitMaker.pattern(x, "fr.*");
        int r = x.rule(1, inner, friend);
        int same = x.rule(1, inner, inner);
        new UnitMaker("in.A").extending("in.B").loadInto(x);
        new UnitMaker("fr.A").extending("in.A").loadInto(x);
        new UnitMaker("o.A").extending("o.B").with("in.Z").method("m").call("fr.A", "m").call("in.A", "m")
                .use(UnitMaker.CONST, "in.A").use(UnitMaker.NEW, "o.A").loadInto(x);
        found("only friends", x, r, 129, 131, 132);
        found("only itself", x, same, 64, 129, 131, 132);
    }

    private static void guard() {
        PackageRules x = new PackageRules();
        int safe = UnitMaker.pattern(x, "s.*");
        int friend = UnitMaker.pattern(x, "f.*");
        int r = x.rule(2, safe, friend);
        new UnitMaker("s.A").field("f").method("m").call("s.A", "m").call("s.B", "m").loadInto(x);
        new UnitMaker("o.S").extending("s.A").method("k").call("o.S", "m").get("s.A", "f").use(UnitMaker.NEW, "s.A")
                .call("s.A", "x").call("o.S", "k").set("s.B", "f").loadInto(x);
        new UnitMaker("f.A").method("m").call("s.A", "m").loadInto(x);
        found("by the target, not by the name; s.B not there", x, r, 65, 66);
        new UnitMaker("s.B").extending("s.A").loadInto(x);
        found("s.B there: its field is s.A's", x, r, 65, 66, 70);
        new UnitMaker("s.B").field("f").method("m").loadInto(x);
        found("s.B's own", x, r, 1, 65, 66, 70);
        new UnitMaker("s.A").extending("s.A").field("f").method("m").loadInto(x);
        found("s.A circular", x, r, 70);
    }

    private static void wrongNumbers() {
        PackageRules x = new PackageRules();
        int p = UnitMaker.pattern(x, "#");
        x.rule(0, p, p);
        new UnitMaker("A").extending("B").loadInto(x);
        found("one", x, 0, 0);
        for (int wrong : new int[] {-1, 1, 6, Integer.MAX_VALUE, Integer.MIN_VALUE}) {
            check.due("violations(" + wrong + ")", x.violations(wrong), -1);
            check.due("violation(" + wrong + ", 0)", x.violation(wrong, 0), -1);
            check.due("violation(0, " + wrong + ")", x.violation(0, wrong), -1);
        }
    }
}
