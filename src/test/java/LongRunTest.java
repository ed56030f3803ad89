/** An object answers as promised up to its 512th call, whatever the calls before were. */
final class LongRunTest {
    private static final int CALLS = 512;
    private static final Check check = new Check();

    public static void main(String[] args) {
        check.sentence("An object is used for at most 512 calls after it has been made; what later calls answer is free.");
        puts();
        emptyLoads();
        loads();
        thirteenths();
        typing();
        refusedPatterns();
        rules();
        freezing();
        asking();
        lastOfEach();
        check.end();
    }

    /** Four times 120 bytes and a load, then 28 bytes. */
    private static void puts() {
        PackageRules x = new PackageRules();
        int there = 0;
        for (int call = 1; call < CALLS; call++) {
            if (there == 120) {
                check.due("load(), call " + call, x.load(), -1);
                there = 0;
            } else {
                check.due("put, call " + call, x.put(call * 7, 1), true);
                there++;
            }
        }
        check.due("bytes() as the last call", x.bytes(), there);
    }

    private static void emptyLoads() {
        PackageRules x = new PackageRules();
        for (int call = 1; call <= CALLS; call++) {
            check.due("load(), call " + call, x.load(), -1);
        }
    }

    /** The shortest unit, twelve bytes in three calls and a load: 128 classes are loaded, at most twelve of them stay. */
    private static void loads() {
        PackageRules x = new PackageRules();
        for (int i = 0; i < CALLS / 4; i++) {
            int c = i % 12;
            check.due("load " + i, UnitMaker.load(x, 197, 2, 1, 1, 'a' + c, 7, 1, 2, 0, 0, 0, 0), c);
        }
    }

    private static void thirteenths() {
        PackageRules x = new PackageRules();
        for (int i = 0; i < CALLS / 4; i++) {
            int c = i % 26;
            check.due("load " + i, UnitMaker.load(x, 197, 2, 1, 1, 'a' + c, 7, 1, 2, 0, 0, 0, 0), c < 12 ? c : -1000);
        }
    }

    private static void typing() {
        PackageRules x = new PackageRules();
        for (int call = 1; call <= CALLS; call++) {
            check.due("type, call " + call, x.type('a'), call <= 10);
        }
        PackageRules y = new PackageRules();
        for (int call = 1; call < CALLS; call++) {
            check.due("type of a wrong character, call " + call, y.type('?'), false);
        }
        check.due("type as the last call", y.type('a'), true);
    }

    private static void refusedPatterns() {
        PackageRules x = new PackageRules();
        for (int call = 1; call < CALLS - 1; call++) {
            check.due("pattern(), call " + call, x.pattern(), -1);
        }
        x.type('a');
        check.due("pattern() as the last call", x.pattern(), 0);
        PackageRules y = new PackageRules();
        for (int i = 0; i < CALLS / 2; i++) {
            check.due("type", y.type('*'), i < 16);
            check.due("pattern() " + i, y.pattern(), i < 6 ? i : -1);
        }
    }

    private static void rules() {
        PackageRules x = new PackageRules();
        for (int call = 1; call <= CALLS; call++) {
            check.due("rule, call " + call, x.rule(3, 1 + call % 2, 0), call <= 6 ? call - 1 : -1);
        }
        PackageRules y = new PackageRules();
        for (int call = 1; call < CALLS; call++) {
            check.due("a refused rule, call " + call, y.rule(0, 0, 0), -1);
        }
        check.due("a rule as the last call", y.rule(3, 1, 0), 0);
    }

    private static void freezing() {
        PackageRules x = new PackageRules();
        UnitMaker.pattern(x, "#");
        x.rule(0, 0, 0);
        int[] unit = new UnitMaker("A").extending("B").with("B", "C", "B").bytes();
        UnitMaker.load(x, unit);
        int calls = 3 + (unit.length + 3) / 4 + 1;
        for (; calls < CALLS - 1; calls += 2) {
            check.due("freeze", x.freeze(0), 4);
            check.due("violations", x.violations(0), 0);
        }
        check.due("violation as the last call", x.violation(0, 0), -1);
    }

    private static void asking() {
        PackageRules x = new PackageRules();
        UnitMaker.pattern(x, "#");
        x.rule(0, 0, 0);
        x.rule(3, 1, 0);
        int calls = 4;
        for (int i = 0; i < 12; i++) {
            String next = (char) ('a' + (i + 1) % 12) + ".A";
            int[] unit = new UnitMaker((char) ('a' + i) + ".A").method("m").call(next, "m").bytes();
            UnitMaker.load(x, unit);
            calls += (unit.length + 3) / 4 + 1;
        }
        for (int i = 0; calls + 4 <= CALLS; i++) {
            check.due("violation of FORBID", x.violation(0, i % 12), 64 * (i % 12));
            check.due("violation of CYCLES", x.violation(1, i % 12), 64 * (i % 12) + 63);
            check.due("target", x.target(i % 12, 0), (i + 1) % 12);
            check.due("slices(1)", x.slices(1), 12);
            calls += 4;
        }
    }

    /** Each call of the face as the 512th, behind calls that were refused. */
    private static void lastOfEach() {
        int[] due = {1, 3, 2, 1, 2, 2, 1, 0, 1, 2, 'o', 1, 0, 5, 1, 1, 0, 1, 2};
        for (int which = 0; which < due.length; which++) {
            PackageRules x = new PackageRules();
            int[] first = new UnitMaker("o.A").method("m", 5).get("s.A", "w").bytes();
            int[] second = new UnitMaker("s.A").field("w").bytes();
            UnitMaker.pattern(x, "#");
            UnitMaker.pattern(x, "s.*");
            x.rule(0, 0, 1);
            x.rule(2, 1, 1);
            UnitMaker.load(x, first);
            UnitMaker.load(x, second);
            int calls = 2 + 4 + 2 + (first.length + 3) / 4 + 1 + (second.length + 3) / 4 + 1;
            if (which == 2) {
                int[] third = new UnitMaker("t.A").bytes();
                UnitMaker.put(x, third);
                calls += (third.length + 3) / 4;
            } else {
                x.put(0, 3);
                x.type('x');
                calls += 2;
            }
            for (; calls < CALLS - 1; calls++) {
                check.due("a refused call", refused(x, calls), 0);
            }
            check.due("call " + which + " of the face as the last", answer(x, which), due[which]);
        }
    }

    private static int refused(PackageRules x, int which) {
        return switch (which % 5) {
            case 0 -> x.put(0, 5) ? 1 : 0;
            case 1 -> x.type('?') ? 1 : 0;
            case 2 -> x.rule(3, 1, 1) + 1;
            case 3 -> x.freeze(2) + 1;
            default -> x.name(2, 0) + 1;
        };
    }

    private static int answer(PackageRules x, int which) {
        return switch (which) {
            case 0 -> x.put(0, 4) ? 1 : 0;
            case 1 -> x.bytes();
            case 2 -> x.load();
            case 3 -> x.type('#') ? 1 : 0;
            case 4 -> x.pattern();
            case 5 -> x.rule(1, 0, 0);
            case 6 -> x.violations(1);
            case 7 -> x.violation(0, 0);
            case 8 -> x.freeze(1);
            case 9 -> x.classes();
            case 10 -> x.name(0, 0);
            case 11 -> x.occurrences(0);
            case 12 -> x.kind(0, 0);
            case 13 -> x.line(0, 0);
            case 14 -> x.named(0, 0);
            case 15 -> x.target(0, 0);
            case 16 -> x.circular(0) ? 1 : 0;
            case 17 -> x.fits(1, 1) ? 1 : 0;
            default -> x.slices(1);
        };
    }
}
