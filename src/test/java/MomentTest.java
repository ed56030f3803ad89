/** What is asked is worked out anew at each call: later loads change the answers on classes that stay as they are. */
final class MomentTest {
    private static final Check check = new Check();
    private static final String SENTENCE = "Everything is worked out from the classes as they are at the moment of the call.";

    public static void main(String[] args) {
        named();
        target();
        circular();
        rulesBeforeClasses();
        violationsComeAndGo();
        knownComesAndGoes();
        slicesAndCycles();
        askingChangesNothing();
        check.end();
    }

    private static void named() {
        check.sentence(SENTENCE);
        PackageRules x = new PackageRules();
        new UnitMaker("A").extending("B").method("m").use(UnitMaker.CONST, "C").loadInto(x);
        check.due("named(0, 0) before", x.named(0, 0), -1);
        new UnitMaker("C").loadInto(x);
        check.due("named(0, 0) behind another", x.named(0, 0), -1);
        check.due("named(0, 1)", x.named(0, 1), 1);
        new UnitMaker("B").loadInto(x);
        check.due("named(0, 0) behind it", x.named(0, 0), 2);
        check.due("named(0, 1) still", x.named(0, 1), 1);
    }

    private static void target() {
        check.sentence(SENTENCE);
        PackageRules x = new PackageRules();
        new UnitMaker("A").method("m").get("B", "w").call("B", "w").loadInto(x);
        int[][] due = {{-1, -1}, {2, -1}, {2, 3}, {2, 1}, {1, 1}, {-1, -1}, {1, 1}};
        UnitMaker[] loads = {
            new UnitMaker("B").with("I").extending("S"), new UnitMaker("I").field("w"), new UnitMaker("S").method("w"),
            new UnitMaker("B").with("I").extending("S").method("w"),
            new UnitMaker("B").with("I").extending("S").method("w").field("w"),
            new UnitMaker("S").method("w").with("B"), new UnitMaker("S")
        };
        for (int i = 0; i < loads.length; i++) {
            loads[i].loadInto(x);
            check.due("GET behind load " + i, x.target(0, 0), due[i][0]);
            check.due("CALL behind load " + i, x.target(0, 1), due[i][1]);
        }
    }

    private static void circular() {
        check.sentence(SENTENCE);
        PackageRules x = new PackageRules();
        new UnitMaker("A").extending("B").loadInto(x);
        new UnitMaker("B").extending("C").loadInto(x);
        check.due("circular(0) before", x.circular(0), false);
        new UnitMaker("C").extending("B").loadInto(x);
        check.due("circular(0) below a circle", x.circular(0), true);
        new UnitMaker("B").loadInto(x);
        check.due("circular(0) behind it", x.circular(0), false);
        check.due("circular(2) behind it", x.circular(2), false);
        new UnitMaker("B").extending("A").loadInto(x);
        check.due("circular(0) in a circle", x.circular(0), true);
        check.due("circular(2) below it", x.circular(2), true);
    }

    private static void rulesBeforeClasses() {
        check.sentence(SENTENCE);
        PackageRules x = new PackageRules();
        UnitMaker.pattern(x, "a.*");
        UnitMaker.pattern(x, "b.*");
        for (int kind = 0; kind <= 2; kind++) {
            x.rule(kind, kind == 0 ? 0 : 1, kind == 0 ? 1 : 1);
        }
        x.rule(3, 1, 0);
        int[][] due = {{0, 0, 0, 0}, {1, 1, 0, 0}, {1, 1, 1, 0}, {1, 1, 1, 2}, {0, 0, 0, 0}};
        UnitMaker[] loads = {
            new UnitMaker("a.A"), new UnitMaker("a.A").method("m").get("b.B", "w"), new UnitMaker("b.B").field("w"),
            new UnitMaker("b.B").field("w").method("m").use(UnitMaker.NEW, "a.A"), new UnitMaker("a.A")
        };
        for (int i = 0; i < loads.length; i++) {
            loads[i].loadInto(x);
            for (int r = 0; r < 4; r++) {
                check.due("violations(" + r + ") behind load " + i, x.violations(r), due[i][r]);
            }
        }
    }

    private static void violationsComeAndGo() {
        check.sentence(SENTENCE);
        PackageRules x = new PackageRules();
        UnitMaker.pattern(x, "#");
        x.rule(0, 0, 0);
        new UnitMaker("A").extending("B").loadInto(x);
        new UnitMaker("C").extending("B").with("A").loadInto(x);
        check.due("violation(0, 1)", x.violation(0, 1), 64);
        new UnitMaker("A").loadInto(x);
        check.due("violation(0, 1) without A's", x.violation(0, 1), 65);
        new UnitMaker("C").with("C").loadInto(x);
        check.due("violation(0, 0) without any", x.violation(0, 0), -1);
        check.due("violations(0) without any", x.violations(0), 0);
    }

    /** A list keeps what it knows while the class has no such violation, or the target is not there. */
    private static void knownComesAndGoes() {
        check.sentence(SENTENCE);
        PackageRules x = new PackageRules();
        UnitMaker.pattern(x, "s");
        UnitMaker.pattern(x, "f");
        x.rule(2, 0, 1);
        new UnitMaker("A").method("m").get("s", "w").loadInto(x);
        new UnitMaker("s").field("w").loadInto(x);
        check.due("freeze(0)", x.freeze(0), 1);
        new UnitMaker("s").loadInto(x);
        check.due("no target", x.violations(0), 0);
        new UnitMaker("s").field("w").loadInto(x);
        check.due("the target again", x.violations(0), 0);
        check.due("freeze(0) again", x.freeze(0), 1);
        new UnitMaker("s").loadInto(x);
        check.due("freeze(0) without a target", x.freeze(0), 0);
        new UnitMaker("s").field("w").loadInto(x);
        check.due("the target behind that", x.violations(0), 1);
    }

    private static void slicesAndCycles() {
        check.sentence(SENTENCE);
        PackageRules x = new PackageRules();
        x.rule(3, 1, 0);
        x.rule(3, 2, 0);
        new UnitMaker("a.a.A").extending("b.b.B").loadInto(x);
        check.due("slices(1)", x.slices(1), 1);
        new UnitMaker("b.b.B").extending("a.a.A").loadInto(x);
        check.due("slices(1) with another", x.slices(1), 2);
        check.due("violations(0)", x.violations(0), 2);
        check.due("violations(1)", x.violations(1), 2);
        check.due("slices(2) between", x.slices(2), 2);
        check.due("violations(0) again", x.violations(0), 2);
        new UnitMaker("a.a.A").loadInto(x);
        check.due("violations(0) cut", x.violations(0), 0);
        check.due("violations(1) cut", x.violations(1), 0);
    }

    /** Calls that only ask, in every order, leave the answers of one another as they are. */
    private static void askingChangesNothing() {
        check.sentence(SENTENCE);
        for (int first = 0; first < 8; first++) {
            for (int second = 0; second < 8; second++) {
                PackageRules x = Scenes.some();
                ask(x, first);
                ask(x, second);
                check.due(first + ", " + second + ": GET's target", x.target(0, 1), 1);
                check.due(first + ", " + second + ": violation(0, 1)", x.violation(0, 1), 2);
                check.due(first + ", " + second + ": violation(3, 1)", x.violation(3, 1), 127);
                check.due(first + ", " + second + ": slices(1)", x.slices(1), 2);
                check.due(first + ", " + second + ": violations(2)", x.violations(2), 1);
                check.due(first + ", " + second + ": bytes()", x.bytes(), 36);
            }
        }
    }

    private static void ask(PackageRules x, int which) {
        switch (which) {
            case 0 -> x.violations(0);
            case 1 -> x.violation(3, 0);
            case 2 -> x.slices(2);
            case 3 -> x.target(0, 2);
            case 4 -> x.circular(0);
            case 5 -> x.violations(2);
            case 6 -> x.fits(1, 1);
            default -> x.name(2, 0);
        }
    }
}
