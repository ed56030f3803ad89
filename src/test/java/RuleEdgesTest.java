/** The boundaries of promises 7, 8 and 9, and of the terms on the rules FORBID, ONLY and GUARD. */
final class RuleEdgesTest {
    private static final Check check = new Check();

    public static void main(String[] args) {
        kinds();
        patternsOfRules();
        depths();
        sixRules();
        refusedRules();
        howMany();
        whichOne();
        allOccurrences();
        noViolation();
        forbidLoadedOrNot();
        forbidItself();
        forbidBySelfReplaced();
        onlyOutside();
        guardAccesses();
        guardTargetThere();
        guardAnother();
        order();
        check.end();
    }

    /** The rule's new violations are these, in this order. */
    private static void found(String what, PackageRules x, int r, int... want) {
        check.due(what + ": violations", x.violations(r), want.length);
        for (int i = 0; i < want.length; i++) {
            check.due(what + ": violation " + i, x.violation(r, i), want[i]);
        }
        check.due(what + ": violation " + want.length, x.violation(r, want.length), -1);
        check.due(what + ": violation -1", x.violation(r, -1), -1);
    }

    private static PackageRules withPatterns(String... texts) {
        PackageRules x = new PackageRules();
        for (String text : texts) {
            UnitMaker.pattern(x, text);
        }
        return x;
    }

    private static void kinds() {
        check.sentence("-1 if kind, p or q is not so (a pattern that there is not), or there are 6 rules.");
        PackageRules x = withPatterns("a", "b");
        for (int kind : Ints.outside(0, 3)) {
            check.due("rule(" + kind + ", 0, 0)", x.rule(kind, 0, 0), -1);
            check.due("rule(" + kind + ", 1, 0)", x.rule(kind, 1, 0), -1);
        }
        check.due("violations(0): there is no rule", x.violations(0), -1);
        for (int kind = 0; kind <= 3; kind++) {
            check.due("rule(" + kind + ", 1, 0)", x.rule(kind, 1, 0), kind);
        }
    }

    private static void patternsOfRules() {
        check.sentence("kinds 0 to 2 with the patterns p and q;");
        for (int kind = 0; kind <= 2; kind++) {
            PackageRules none = new PackageRules();
            none.type('a');
            for (int p : Ints.noNumberOf(0)) {
                check.due("no pattern: rule(" + kind + ", " + p + ", " + p + ")", none.rule(kind, p, p), -1);
            }
            PackageRules three = withPatterns("a", "b", "c");
            for (int wrong : Ints.noNumberOf(3)) {
                check.due("rule(" + kind + ", " + wrong + ", 2)", three.rule(kind, wrong, 2), -1);
                check.due("rule(" + kind + ", 2, " + wrong + ")", three.rule(kind, 2, wrong), -1);
                check.due("rule(" + kind + ", " + wrong + ", " + wrong + ")", three.rule(kind, wrong, wrong), -1);
            }
            check.due("rule(" + kind + ", 0, 2)", three.rule(kind, 0, 2), 0);
            check.due("rule(" + kind + ", 2, 0)", three.rule(kind, 2, 0), 1);
            check.due("rule(" + kind + ", 2, 2)", three.rule(kind, 2, 2), 2);
            PackageRules six = withPatterns("a", "b", "c", "d", "e", "f");
            for (int wrong : Ints.noNumberOf(6)) {
                check.due("six: rule(" + kind + ", " + wrong + ", 5)", six.rule(kind, wrong, 5), -1);
                check.due("six: rule(" + kind + ", 5, " + wrong + ")", six.rule(kind, 5, wrong), -1);
            }
            check.due("rule(" + kind + ", 5, 5)", six.rule(kind, 5, 5), 0);
        }
    }

    private static void depths() {
        check.sentence("kind 3 with d = p, 1 or 2, and q = 0.");
        PackageRules x = withPatterns("a", "b", "c", "d");
        for (int d : Ints.outside(1, 2)) {
            check.due("rule(3, " + d + ", 0)", x.rule(3, d, 0), -1);
        }
        for (int q : Ints.outside(0, 0)) {
            check.due("rule(3, 1, " + q + ")", x.rule(3, 1, q), -1);
            check.due("rule(3, 2, " + q + ")", x.rule(3, 2, q), -1);
        }
        check.due("rule(3, 1, 0)", x.rule(3, 1, 0), 0);
        check.due("rule(3, 2, 0)", x.rule(3, 2, 0), 1);
        PackageRules none = new PackageRules();
        check.due("rule(3, 2, 0) without a pattern", none.rule(3, 2, 0), 0);
    }

    private static void sixRules() {
        check.sentence("or there are 6 rules.");
        for (int kind = 0; kind <= 3; kind++) {
            PackageRules x = withPatterns("a", "b");
            for (int r = 0; r < 6; r++) {
                check.due("violations(" + r + ") before", x.violations(r), -1);
                check.due("rule " + r + " of the kind " + kind, x.rule(kind, 1, 0), r);
                check.due("violations(" + r + ")", x.violations(r), 0);
            }
            for (int other = 0; other <= 3; other++) {
                check.due("a seventh of the kind " + other, x.rule(other, 1, 0), -1);
            }
            check.due("violations(6)", x.violations(6), -1);
            check.due("violations(5)", x.violations(5), 0);
        }
    }

    private static void refusedRules() {
        check.sentence("A call that is refused (-1 or false) changes nothing.");
        PackageRules x = withPatterns("#", "a");
        new UnitMaker("a").extending("b").loadInto(x);
        check.due("a refused rule", x.rule(0, 0, 2), -1);
        check.due("rule(0, 0, 0)", x.rule(0, 0, 0), 0);
        for (int r = 1; r < 6; r++) {
            check.due("a refused rule", x.rule(4, 1, 1), -1);
            check.due("a refused depth", x.rule(3, 3, 0), -1);
            check.due("rule(0, 1, 1)", x.rule(0, 1, 1), r);
        }
        check.due("a seventh", x.rule(0, 1, 1), -1);
        found("the first is as it was", x, 0, 0);
        found("the last is as it was", x, 5);
    }

    private static void howMany() {
        check.sentence("How many new violations rule r has; -1 if there is no rule r.");
        PackageRules x = withPatterns("#");
        new UnitMaker("A").extending("B").loadInto(x);
        for (int r : Ints.noNumberOf(0)) {
            check.due("no rule: violations(" + r + ")", x.violations(r), -1);
        }
        x.rule(0, 0, 0);
        check.due("violations(0)", x.violations(0), 1);
        for (int r : Ints.noNumberOf(1)) {
            check.due("one rule: violations(" + r + ")", x.violations(r), -1);
        }
        for (int r = 1; r < 6; r++) {
            x.rule(0, 0, 0);
        }
        for (int r : Ints.noNumberOf(6)) {
            check.due("six rules: violations(" + r + ")", x.violations(r), -1);
        }
        check.due("violations(5)", x.violations(5), 1);
    }

    private static void whichOne() {
        check.sentence("64 * its class + its occurrence; for CYCLES 64 * the class that it stands for + 63. -1 if there is none.");
        PackageRules x = withPatterns("#");
        new UnitMaker("a.A").extending("b.B").with("b.B").loadInto(x);
        for (int r : Ints.noNumberOf(0)) {
            check.due("no rule: violation(" + r + ", 0)", x.violation(r, 0), -1);
        }
        x.rule(0, 0, 0);
        for (int r : Ints.noNumberOf(1)) {
            check.due("one rule: violation(" + r + ", 0)", x.violation(r, 0), -1);
        }
        for (int i : Ints.noNumberOf(2)) {
            check.due("two violations: violation(0, " + i + ")", x.violation(0, i), -1);
        }
        check.due("violation(0, 0)", x.violation(0, 0), 0);
        check.due("violation(0, 1)", x.violation(0, 1), 1);
        PackageRules y = new PackageRules();
        y.rule(3, 1, 0);
        new UnitMaker("a.A").extending("b.B").loadInto(y);
        new UnitMaker("b.B").extending("a.A").loadInto(y);
        for (int i : Ints.noNumberOf(2)) {
            check.due("CYCLES: violation(0, " + i + ")", y.violation(0, i), -1);
        }
        for (int r : Ints.noNumberOf(1)) {
            check.due("CYCLES: violation(" + r + ", 0)", y.violation(r, 0), -1);
        }
        check.due("CYCLES: violation(0, 1)", y.violation(0, 1), 127);
    }

    /** Twelve units of 120 bytes, each with 48 occurrences that are all violations. */
    private static void allOccurrences() {
        check.sentence("A rule has VIOLATIONS, in the order of their classes' numbers, then of the occurrences");
        PackageRules x = withPatterns("#");
        x.rule(0, 0, 0);
        for (int c = 0; c < 12; c++) {
            UnitMaker most = new UnitMaker("" + (char) ('a' + c)).extending("z").with("z", "z", "z");
            for (int m = 0; m < 4; m++) {
                most.method("z");
                for (int i = 0; i < 11; i++) {
                    most.use(UnitMaker.NEW, "z");
                }
            }
            check.due("the length of a unit", most.bytes().length, 120);
            most.loadInto(x);
        }
        check.due("violations(0)", x.violations(0), 576);
        for (int i = 0; i < 576; i += 25) {
            check.due("violation(0, " + i + ")", x.violation(0, i), 64 * (i / 48) + i % 48);
        }
        check.due("violation(0, 575)", x.violation(0, 575), 64 * 11 + 47);
        check.due("violation(0, 576)", x.violation(0, 576), -1);
        check.due("freeze(0)", x.freeze(0), -1);
        check.due("violations(0) behind it", x.violations(0), 576);
    }

    private static void noViolation() {
        check.sentence("RULES, at most 6. A rule has VIOLATIONS");
        PackageRules x = withPatterns("#", "q");
        for (int kind = 0; kind <= 2; kind++) {
            x.rule(kind, 0, 0);
            x.rule(kind, 1, 1);
        }
        for (int r = 0; r < 6; r++) {
            found("no class, rule " + r, x, r);
        }
        new UnitMaker("A").loadInto(x);
        for (int r = 0; r < 6; r++) {
            found("no occurrence, rule " + r, x, r);
        }
    }

    private static void forbidLoadedOrNot() {
        check.sentence("0 FORBID p q: the occurrences, in classes that p fits, that name something (loaded or not) that q fits");
        PackageRules x = withPatterns("a.*", "b.*");
        x.rule(0, 0, 1);
        new UnitMaker("a.A").extending("b.B").with("a.B", "c.B").method("m").get("b.C", "f").use(UnitMaker.CONST, "b.B").loadInto(x);
        new UnitMaker("c.C").extending("b.B").loadInto(x);
        found("b.B not loaded", x, 0, 0, 3, 4);
        new UnitMaker("b.B").extending("b.C").loadInto(x);
        found("b.B loaded", x, 0, 0, 3, 4);
    }

    private static void forbidItself() {
        check.sentence("and that is not the name of the class itself.");
        PackageRules x = withPatterns("#");
        x.rule(0, 0, 0);
        new UnitMaker("a.A").extending("a.A").with("a.A", "a.B", "a.A").method("m").get("a.A", "m").set("a.A", "m")
                .call("a.A", "m").use(UnitMaker.NEW, "a.A").use(UnitMaker.CAST, "a.A").use(UnitMaker.TEST, "a.A")
                .use(UnitMaker.CONST, "a.A").use(UnitMaker.CONST, "a.AA").loadInto(x);
        found("all but itself", x, 0, 2, 11);
    }

    private static void forbidBySelfReplaced() {
        check.sentence("0 FORBID p q: the occurrences, in classes that p fits");
        PackageRules x = withPatterns("a.A", "#", "q");
        x.rule(0, 0, 1);
        x.rule(0, 1, 2);
        x.rule(0, 2, 1);
        new UnitMaker("b.A").extending("a.A").loadInto(x);
        new UnitMaker("a.A").extending("b.A").with("q").loadInto(x);
        found("in a.A alone", x, 0, 64, 65);
        found("on q alone", x, 1, 65);
        found("in no class", x, 2);
    }

    private static void onlyOutside() {
        check.sentence("1 ONLY p q: the occurrences, in classes that neither p nor q fits, that name something that p fits.");
        PackageRules x = withPatterns("p.*", "q.*", "#", "z");
        x.rule(1, 0, 1);
        x.rule(1, 2, 3);
        x.rule(1, 0, 3);
        x.rule(1, 0, 2);
        new UnitMaker("p.A").extending("p.B").loadInto(x);
        new UnitMaker("q.A").extending("p.B").loadInto(x);
        new UnitMaker("o.A").extending("p.B").with("q.A", "o.B", "p.A").loadInto(x);
        found("in o.A alone, p.B not being loaded", x, 0, 128, 131);
        found("all are inside", x, 1);
        found("none is a friend", x, 2, 64, 128, 131);
        found("all are friends", x, 3);
    }

    private static void guardAccesses() {
        check.sentence("2 GUARD p q: the accesses, in classes that q does not fit");
        PackageRules x = withPatterns("s.*", "f.*", "#");
        x.rule(2, 0, 1);
        x.rule(2, 0, 2);
        new UnitMaker("s.A").field("w").method("w").loadInto(x);
        new UnitMaker("o.A").extending("s.A").with("s.A").method("m").use(UnitMaker.NEW, "s.A").use(UnitMaker.CAST, "s.A")
                .use(UnitMaker.TEST, "s.A").use(UnitMaker.CONST, "s.A").get("s.A", "w").set("s.A", "w").call("s.A", "w")
                .loadInto(x);
        new UnitMaker("f.A").method("m").get("s.A", "w").set("s.A", "w").call("s.A", "w").loadInto(x);
        found("the accesses in o.A", x, 0, 70, 71, 72);
        found("all are friends", x, 1);
    }

    private static void guardTargetThere() {
        check.sentence("whose target is there");
        PackageRules x = withPatterns("s.*", "f.*");
        x.rule(2, 0, 1);
        new UnitMaker("o.A").method("m").get("s.A", "w").call("s.A", "w").loadInto(x);
        found("s.A not loaded", x, 0);
        new UnitMaker("s.A").loadInto(x);
        found("no w there", x, 0);
        new UnitMaker("s.A").field("w").loadInto(x);
        found("a field w", x, 0, 0);
        new UnitMaker("s.A").field("w").method("w").loadInto(x);
        found("both", x, 0, 0, 1);
        new UnitMaker("s.A").field("w").method("w").with("s.A").loadInto(x);
        found("s.A circular", x, 0);
    }

    private static void guardAnother() {
        check.sentence("and another class that p fits.");
        PackageRules x = withPatterns("s.*", "f.*");
        x.rule(2, 0, 1);
        new UnitMaker("s.A").field("w").method("w").get("s.A", "w").call("s.B", "w").loadInto(x);
        new UnitMaker("s.B").extending("s.A").loadInto(x);
        found("its own members, by two names", x, 0);
        new UnitMaker("s.B").method("w").loadInto(x);
        found("another one's", x, 0, 1);
        // It is the target that p must fit, not what is named.
        new UnitMaker("o.B").extending("s.A").loadInto(x);
        new UnitMaker("s.C").extending("o.C").loadInto(x);
        new UnitMaker("o.C").field("w").loadInto(x);
        new UnitMaker("s.A").loadInto(x);
        new UnitMaker("o.U").method("m").get("o.B", "w").get("s.C", "w").loadInto(x);
        found("targets none, and o.C", x, 0);
        new UnitMaker("s.A").field("w").loadInto(x);
        found("the first one's target is s.A", x, 0, 64 * 5);
    }

    private static void order() {
        check.sentence("in the order of their classes' numbers, then of the occurrences");
        PackageRules x = withPatterns("#");
        x.rule(0, 0, 0);
        new UnitMaker("z").loadInto(x);
        new UnitMaker("b").loadInto(x);
        new UnitMaker("a").extending("z").with("b", "y").loadInto(x);
        new UnitMaker("z").extending("b").loadInto(x);
        new UnitMaker("b").method("m", 9).use(UnitMaker.TEST, "a").use(UnitMaker.NEW, "z").method("n", 1).get("a", "n").loadInto(x);
        found("by numbers, not by names, kinds, lines or loads", x, 0, 0, 64, 65, 66, 128, 129, 130);
    }
}
