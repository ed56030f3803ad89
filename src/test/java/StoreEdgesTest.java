/** The boundaries of promise 10, and of the terms on the store of known violations. */
final class StoreEdgesTest {
    private static final Check check = new Check();

    public static void main(String[] args) {
        emptyAtFirst();
        eightAndNine();
        eightOverClasses();
        refusedKeepsTheList();
        knownAndNewCount();
        goneBefore();
        whateverTheLine();
        equalInAll();
        wordOfAnAccess();
        usedOnce();
        rulesApart();
        noCycles();
        numbers();
        check.end();
    }

    private static PackageRules forbidAny() {
        PackageRules x = new PackageRules();
        UnitMaker.pattern(x, "#");
        x.rule(0, 0, 0);
        return x;
    }

    private static void found(String what, PackageRules x, int r, int... want) {
        check.due(what + ": violations", x.violations(r), want.length);
        for (int i = 0; i < want.length; i++) {
            check.due(what + ": violation " + i, x.violation(r, i), want[i]);
        }
        check.due(what + ": violation " + want.length, x.violation(r, want.length), -1);
    }

    /** The unit of a class with so many equal violations. */
    private static UnitMaker equalOnes(String name, int count) {
        UnitMaker maker = new UnitMaker(name).method("m");
        for (int i = 0; i < count; i++) {
            maker.use(UnitMaker.NEW, "B");
        }
        return maker;
    }

    private static void emptyAtFirst() {
        check.sentence("each rule of the kinds 0 to 2 has a list of at most 8 KNOWN violations, empty at first");
        PackageRules x = new PackageRules();
        UnitMaker.pattern(x, "s");
        UnitMaker.pattern(x, "f");
        UnitMaker.pattern(x, "u");
        x.rule(0, 2, 0);
        x.rule(1, 0, 1);
        x.rule(2, 0, 1);
        new UnitMaker("u").method("m").get("s", "w").loadInto(x);
        new UnitMaker("s").field("w").loadInto(x);
        for (int r = 0; r < 3; r++) {
            found("kind " + r + " at first", x, r, 0);
        }
        for (int r = 0; r < 3; r++) {
            check.due("freeze(" + r + ")", x.freeze(r), 1);
            found("kind " + r + " frozen", x, r);
        }
    }

    private static void eightAndNine() {
        check.sentence("Answers how many; -1 if there is no rule r, it is one of the kind 3, or it has more than 8 violations.");
        for (int count = 0; count <= 12; count++) {
            PackageRules x = forbidAny();
            equalOnes("A", count).loadInto(x);
            check.due("violations before", x.violations(0), count);
            check.due("freeze of " + count, x.freeze(0), count <= 8 ? count : -1);
            check.due("violations behind", x.violations(0), count <= 8 ? 0 : count);
            check.due("violation(0, 0) behind", x.violation(0, 0), count <= 8 ? -1 : 0);
            check.due("freeze of " + count + " again", x.freeze(0), count <= 8 ? count : -1);
        }
    }

    private static void eightOverClasses() {
        check.sentence("a list of at most 8 KNOWN violations");
        PackageRules x = forbidAny();
        for (int c = 0; c < 8; c++) {
            new UnitMaker("a." + (char) ('a' + c)).extending("B").loadInto(x);
        }
        check.due("freeze of one in each of eight classes", x.freeze(0), 8);
        found("all are known", x, 0);
        new UnitMaker("a.i").extending("B").loadInto(x);
        found("a ninth class", x, 0, 512);
        check.due("freeze of nine", x.freeze(0), -1);
        found("the eight stay known", x, 0, 512);
    }

    private static void refusedKeepsTheList() {
        check.sentence("A call that is refused (-1 or false) changes nothing.");
        PackageRules x = forbidAny();
        new UnitMaker("A").extending("B").with("C").loadInto(x);
        check.due("freeze(0)", x.freeze(0), 2);
        UnitMaker nine = equalOnes("A", 9);
        nine.loadInto(x);
        found("nine others", x, 0, 0, 1, 2, 3, 4, 5, 6, 7, 8);
        check.due("freeze of nine", x.freeze(0), -1);
        found("nine others still", x, 0, 0, 1, 2, 3, 4, 5, 6, 7, 8);
        new UnitMaker("A").extending("B").with("C").loadInto(x);
        found("the list is as it was", x, 0);
        new UnitMaker("A").extending("C").with("B").loadInto(x);
        found("and no longer", x, 0, 0, 1);
    }

    private static void knownAndNewCount() {
        check.sentence("The list of rule r becomes all its violations, known or new");
        PackageRules x = forbidAny();
        equalOnes("A", 7).loadInto(x);
        check.due("freeze of seven", x.freeze(0), 7);
        equalOnes("A", 8).loadInto(x);
        found("an eighth", x, 0, 7);
        check.due("freeze of seven known and one new", x.freeze(0), 8);
        found("none new", x, 0);
        equalOnes("A", 9).loadInto(x);
        found("a ninth", x, 0, 8);
        check.due("freeze of eight known and one new", x.freeze(0), -1);
        found("a ninth still", x, 0, 8);
    }

    private static void goneBefore() {
        check.sentence("(what it had before is gone)");
        PackageRules x = forbidAny();
        equalOnes("A", 8).loadInto(x);
        check.due("freeze of eight", x.freeze(0), 8);
        equalOnes("A", 1).loadInto(x);
        check.due("freeze of one", x.freeze(0), 1);
        equalOnes("A", 8).loadInto(x);
        found("seven of eight are new", x, 0, 1, 2, 3, 4, 5, 6, 7);
        new UnitMaker("A").loadInto(x);
        check.due("freeze of none", x.freeze(0), 0);
        equalOnes("A", 1).loadInto(x);
        found("the one is new", x, 0, 0);
        new UnitMaker("A").extending("C").loadInto(x);
        check.due("freeze of another", x.freeze(0), 1);
        equalOnes("A", 1).loadInto(x);
        found("the one is new still", x, 0, 0);
    }

    private static void whateverTheLine() {
        check.sentence("one is KNOWN if the list has an equal one (whatever the line) that no earlier violation has used");
        PackageRules x = forbidAny();
        new UnitMaker("A").method("m", 0).use(UnitMaker.NEW, "B").get("C", "w").loadInto(x);
        check.due("freeze(0)", x.freeze(0), 2);
        new UnitMaker("A").method("m", 255).step(255).use(UnitMaker.NEW, "B").get("C", "w").loadInto(x);
        found("other lines", x, 0);
        new UnitMaker("A").method("n", 1).get("C", "w").method("o", 2).use(UnitMaker.NEW, "B").loadInto(x);
        found("in other methods, in the other order", x, 0);
        UnitMaker wide = new UnitMaker("A").with("A");
        int field = wide.memberNumber(9, "C", "w");
        wide.method("m", 7).raw(196, 180, 0, field, 196, 187, 0, wide.classNumber("B")).loadInto(x);
        found("by WIDE instructions, with other numbers", x, 0);
    }

    private static void equalInAll() {
        check.sentence("each with its class's number, kind, the name that it names and, for an access, the word of its field or method.");
        PackageRules x = forbidAny();
        new UnitMaker("A").extending("B").with("C").method("m").use(UnitMaker.NEW, "B").loadInto(x);
        new UnitMaker("Z").loadInto(x);
        check.due("freeze(0)", x.freeze(0), 3);
        new UnitMaker("Z").extending("B").with("C").method("m").use(UnitMaker.NEW, "B").loadInto(x);
        found("another class", x, 0, 64, 65, 66);
        new UnitMaker("Z").loadInto(x);
        new UnitMaker("A").extending("C").with("B").method("m").use(UnitMaker.NEW, "C").loadInto(x);
        found("other names", x, 0, 0, 1, 2);
        int[] others = {UnitMaker.CAST, UnitMaker.TEST, UnitMaker.CONST};
        for (int other : others) {
            new UnitMaker("A").extending("B").with("C").method("m").use(other, "B").loadInto(x);
            found("another kind, " + other, x, 0, 2);
        }
        new UnitMaker("A").with("B").extending("C").method("m").use(UnitMaker.NEW, "B").loadInto(x);
        found("SUPER and INTERFACES changed", x, 0, 0, 1);
    }

    private static void wordOfAnAccess() {
        check.sentence("for an access, the word of its field or method.");
        PackageRules x = forbidAny();
        new UnitMaker("A").method("m").get("B", "w").set("B", "w").call("B", "w").loadInto(x);
        check.due("freeze(0)", x.freeze(0), 3);
        new UnitMaker("A").method("m").call("B", "w").get("B", "w").set("B", "w").loadInto(x);
        found("in another order", x, 0);
        new UnitMaker("A").method("m").get("B", "v").set("B", "w").call("B", "v").loadInto(x);
        found("other words", x, 0, 0, 2);
        new UnitMaker("A").method("m").set("B", "w").set("B", "w").get("B", "w").get("B", "w").loadInto(x);
        found("other kinds", x, 0, 1, 3);
        new UnitMaker("A").method("m").get("B", "W").get("B", "ww").get("B", "w").loadInto(x);
        found("words that are alike", x, 0, 0, 1);
    }

    private static void usedOnce() {
        check.sentence("that no earlier violation has used; the others are NEW.");
        for (int known = 0; known <= 8; known++) {
            PackageRules x = forbidAny();
            equalOnes("A", known).loadInto(x);
            check.due("freeze of " + known, x.freeze(0), known);
            equalOnes("A", 10).loadInto(x);
            check.due("violations with " + known + " known", x.violations(0), 10 - known);
            check.due("violations once more", x.violations(0), 10 - known);
            check.due("the first new one", x.violation(0, 0), known);
            check.due("the last new one", x.violation(0, 9 - known), 9);
            check.due("none behind it", x.violation(0, 10 - known), -1);
        }
    }

    private static void rulesApart() {
        check.sentence("each rule of the kinds 0 to 2 has a list");
        PackageRules x = forbidAny();
        for (int r = 1; r < 6; r++) {
            x.rule(0, 0, 0);
        }
        new UnitMaker("A").extending("B").loadInto(x);
        check.due("freeze(3)", x.freeze(3), 1);
        for (int r = 0; r < 6; r++) {
            check.due("violations(" + r + ")", x.violations(r), r == 3 ? 0 : 1);
        }
        check.due("freeze(5)", x.freeze(5), 1);
        new UnitMaker("A").loadInto(x);
        check.due("freeze(3) of none", x.freeze(3), 0);
        new UnitMaker("A").extending("B").loadInto(x);
        for (int r = 0; r < 6; r++) {
            check.due("violations(" + r + ") now", x.violations(r), r == 5 ? 0 : 1);
        }
    }

    private static void noCycles() {
        check.sentence("-1 if there is no rule r, it is one of the kind 3");
        PackageRules x = new PackageRules();
        x.rule(3, 1, 0);
        check.due("freeze of CYCLES without a violation", x.freeze(0), -1);
        new UnitMaker("a.A").extending("b.A").loadInto(x);
        new UnitMaker("b.A").extending("a.A").loadInto(x);
        check.due("freeze of CYCLES with two", x.freeze(0), -1);
        check.due("violations(0)", x.violations(0), 2);
    }

    private static void numbers() {
        check.sentence("-1 if there is no rule r");
        PackageRules none = new PackageRules();
        for (int r : Ints.noNumberOf(0)) {
            check.due("no rule: freeze(" + r + ")", none.freeze(r), -1);
        }
        PackageRules x = forbidAny();
        new UnitMaker("A").extending("B").loadInto(x);
        for (int r : Ints.noNumberOf(1)) {
            check.due("one rule: freeze(" + r + ")", x.freeze(r), -1);
        }
        found("nothing is known by that", x, 0, 0);
        for (int r = 1; r < 6; r++) {
            x.rule(0, 0, 0);
        }
        for (int r : Ints.noNumberOf(6)) {
            check.due("six rules: freeze(" + r + ")", x.freeze(r), -1);
        }
        for (int r = 0; r < 6; r++) {
            found("nothing is known by that in rule " + r, x, r, 0);
            check.due("freeze(" + r + ")", x.freeze(r), 1);
        }
    }
}
