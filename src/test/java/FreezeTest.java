/** Promise 10, and what promises 8 and 9 make of the store. */
final class FreezeTest {
    private static final Check check = new Check();

    public static void main(String[] args) {
        refusals();
        equality();
        uses();
        refreezing();
        ownLists();
        guarded();
        check.end();
    }

    private static PackageRules forbidAny() {
        PackageRules x = new PackageRules();
        UnitMaker.pattern(x, "#");
        x.rule(0, 0, 0);
        return x;
    }

    private static void refusals() {
        PackageRules x = forbidAny();
        x.rule(3, 1, 0);
        for (int wrong : new int[] {-1, 1, 2, 6, Integer.MAX_VALUE, Integer.MIN_VALUE}) {
            check.due("freeze(" + wrong + ")", x.freeze(wrong), -1);
        }
        check.due("freeze of nothing", x.freeze(0), 0);
        UnitMaker eight = new UnitMaker("A").method("m");
        for (int i = 0; i < 8; i++) {
            eight.use(UnitMaker.NEW, "B");
        }
        eight.loadInto(x);
        check.due("violations before", x.violations(0), 8);
        check.due("freeze of eight", x.freeze(0), 8);
        check.due("violations behind", x.violations(0), 0);
        check.due("violation(0, 0) behind", x.violation(0, 0), -1);
        eight.use(UnitMaker.CAST, "B").loadInto(x);
        check.due("freeze of nine", x.freeze(0), -1);
        check.due("the list is as before", x.violations(0), 1);
        check.due("the ninth is new", x.violation(0, 0), 8);
        check.due("freeze(1) of CYCLES", x.freeze(1), -1);
    }

    /** Class, kind, name and word count; the line does not, nor does the occurrence's number. */
    private static void equality() {
        PackageRules x = forbidAny();
        new UnitMaker("A").method("m", 1).get("B", "f").use(UnitMaker.NEW, "B").loadInto(x);
        new UnitMaker("C").loadInto(x);
        check.due("freeze(0)", x.freeze(0), 2);
        new UnitMaker("A").extending("A").method("m", 77).step(4).use(UnitMaker.NEW, "B").raw(0).get("B", "f").loadInto(x);
        check.due("other lines and order", x.violations(0), 0);
        new UnitMaker("A").method("m", 1).get("B", "g").use(UnitMaker.NEW, "B").loadInto(x);
        check.due("another word", x.violation(0, 0), 0);
        check.due("another word, one", x.violations(0), 1);
        new UnitMaker("A").method("m", 1).set("B", "f").use(UnitMaker.NEW, "B").loadInto(x);
        check.due("another kind of access", x.violation(0, 0), 0);
        new UnitMaker("A").method("m", 1).get("D", "f").use(UnitMaker.NEW, "D").loadInto(x);
        check.due("another name", x.violations(0), 2);
        new UnitMaker("A").method("m", 1).get("B", "f").use(UnitMaker.CAST, "B").loadInto(x);
        check.due("another kind", x.violation(0, 0), 1);
        new UnitMaker("A").loadInto(x);
        new UnitMaker("C").method("m", 1).get("B", "f").use(UnitMaker.NEW, "B").loadInto(x);
        check.due("another class", x.violations(0), 2);
        check.due("another class, first", x.violation(0, 0), 64);
        check.due("another class, second", x.violation(0, 1), 65);
        check.due("freeze of the other class", x.freeze(0), 2);
        check.due("freeze of the other class: none new", x.violations(0), 0);
        new UnitMaker("A").method("m", 1).get("B", "f").use(UnitMaker.NEW, "B").loadInto(x);
        check.due("the first class is new now", x.violation(0, 1), 1);
        check.due("the first class is new now, alone", x.violations(0), 2);
        new UnitMaker("C").loadInto(x);
        check.due("freeze of the first class", x.freeze(0), 2);
        new UnitMaker("A").loadInto(x);
        new UnitMaker("C").method("m", 1).get("B", "f").use(UnitMaker.NEW, "B").loadInto(x);
        new UnitMaker("A").method("m", 1).get("B", "f").use(UnitMaker.NEW, "B").loadInto(x);
        check.due("what was known is known again", x.violation(0, 0), 64);
    }

    private static void uses() {
        PackageRules x = forbidAny();
        new UnitMaker("A").method("m").use(UnitMaker.NEW, "B").use(UnitMaker.NEW, "B").loadInto(x);
        check.due("freeze of two equal ones", x.freeze(0), 2);
        new UnitMaker("A").method("m").use(UnitMaker.CAST, "B").use(UnitMaker.NEW, "B").use(UnitMaker.NEW, "B")
                .use(UnitMaker.NEW, "B").use(UnitMaker.NEW, "B").loadInto(x);
        check.due("violations(0)", x.violations(0), 3);
        check.due("violation(0, 0)", x.violation(0, 0), 0);
        check.due("violation(0, 1)", x.violation(0, 1), 3);
        check.due("violation(0, 2)", x.violation(0, 2), 4);
        check.due("violations(0) again", x.violations(0), 3);
    }

    private static void refreezing() {
        PackageRules x = forbidAny();
        new UnitMaker("A").method("m").use(UnitMaker.NEW, "B").use(UnitMaker.NEW, "C").loadInto(x);
        check.due("freeze(0)", x.freeze(0), 2);
        check.due("freeze(0): known ones count too", x.freeze(0), 2);
        new UnitMaker("A").method("m").use(UnitMaker.NEW, "C").use(UnitMaker.NEW, "D").loadInto(x);
        check.due("freeze(0): known and new", x.freeze(0), 2);
        new UnitMaker("A").method("m").use(UnitMaker.NEW, "B").use(UnitMaker.NEW, "C").use(UnitMaker.NEW, "D").loadInto(x);
        check.due("B is gone from the list", x.violations(0), 1);
        check.due("B is new", x.violation(0, 0), 0);
        new UnitMaker("A").loadInto(x);
        check.due("freeze(0) of none", x.freeze(0), 0);
        new UnitMaker("A").method("m").use(UnitMaker.NEW, "C").loadInto(x);
        check.due("the list is empty", x.violations(0), 1);
    }

    private static void ownLists() {
        PackageRules x = forbidAny();
        x.rule(0, 0, 0);
        UnitMaker.pattern(x, "Q");
        x.rule(1, 1, 1);
        new UnitMaker("A").extending("B").with("Q").loadInto(x);
        check.due("freeze(1)", x.freeze(1), 2);
        check.due("violations(0)", x.violations(0), 2);
        check.due("violations(1)", x.violations(1), 0);
        check.due("violations(2)", x.violations(2), 1);
        check.due("freeze(2)", x.freeze(2), 1);
        check.due("violations(2) behind", x.violations(2), 0);
        check.due("violations(0) still", x.violations(0), 2);
    }

    /** A known violation is one by the name that is named, whatever the target is by now. */
    private static void guarded() {
        PackageRules x = new PackageRules();
        UnitMaker.pattern(x, "s.*");
        UnitMaker.pattern(x, "f.*");
        x.rule(2, 0, 1);
        new UnitMaker("A").method("m").call("C", "w").loadInto(x);
        new UnitMaker("C").extending("s.S").loadInto(x);
        new UnitMaker("s.S").method("w").loadInto(x);
        check.due("freeze(0)", x.freeze(0), 1);
        check.due("violations(0)", x.violations(0), 0);
        new UnitMaker("C").extending("s.T").loadInto(x);
        new UnitMaker("s.T").method("w").loadInto(x);
        check.due("another target", x.violations(0), 0);
        new UnitMaker("A").method("m").call("s.T", "w").loadInto(x);
        check.due("another name", x.violations(0), 1);
    }
}
