import java.util.ArrayList;
import java.util.List;

/** Objects in states of their own, each made the same way whenever it is asked for, and a look at all that can be seen. */
final class Scenes {
    private Scenes() { }

    /** As it is made. */
    static PackageRules empty() {
        return new PackageRules();
    }

    /** Something of each: classes in a cycle, known and new violations, a text that is typed, a unit in the buffer. */
    static PackageRules some() {
        PackageRules x = new PackageRules();
        UnitMaker.pattern(x, "#");
        UnitMaker.pattern(x, "s.*");
        UnitMaker.pattern(x, "a*");
        x.rule(0, 0, 0);
        x.rule(1, 1, 2);
        x.rule(2, 1, 2);
        x.rule(3, 1, 0);
        firstUser().loadInto(x);
        new UnitMaker("s.A").field("w").method("w").loadInto(x);
        new UnitMaker("s.B").with("o.A", "s.C").loadInto(x);
        x.freeze(0);
        x.freeze(2);
        new UnitMaker("o.A").extending("s.B").method("m", 250).get("s.A", "w").step(10).call("s.A", "w")
                .use(UnitMaker.NEW, "b.B").loadInto(x);
        for (char c : "s.#".toCharArray()) {
            x.type(c);
        }
        UnitMaker.put(x, new UnitMaker("q.Q").extending("o.A").method("m", 9).use(UnitMaker.CAST, "s.A").bytes());
        return x;
    }

    private static UnitMaker firstUser() {
        return new UnitMaker("o.A").extending("s.A").method("m", 3).get("s.A", "w").use(UnitMaker.NEW, "b.B");
    }

    /** Targets that are found over SUPER, interfaces and both, from the first class and from the last. */
    static PackageRules family() {
        PackageRules x = new PackageRules();
        UnitMaker.pattern(x, "f.*");
        UnitMaker.pattern(x, "u");
        x.rule(2, 0, 1);
        new UnitMaker("f.A").extending("f.B").with("f.I", "f.J").method("a").get("f.A", "p").get("f.A", "q")
                .call("f.A", "b").call("f.A", "j").loadInto(x);
        new UnitMaker("f.B").with("f.J").field("q").method("b").loadInto(x);
        new UnitMaker("f.I").with("f.J").field("i").loadInto(x);
        new UnitMaker("f.J").field("p").method("j").loadInto(x);
        x.freeze(0);
        new UnitMaker("g.C").extending("f.A").method("c").get("g.C", "i").get("g.C", "q").call("g.C", "a")
                .call("g.C", "j").call("f.J", "j").loadInto(x);
        return x;
    }

    /** Full: 12 classes, 6 patterns, 6 rules, a list of 8, more than 8 violations, 10 characters, 120 bytes. */
    static PackageRules full() {
        PackageRules x = new PackageRules();
        for (String text : new String[] {"#", "*.a", "*", "#.#", "s.#", "*.*.*"}) {
            UnitMaker.pattern(x, text);
        }
        for (int r = 0; r < 6; r++) {
            x.rule(r % 4, r % 4 == 3 ? 1 : r == 5 ? 1 : 0, 0);
        }
        for (int c = 0; c < 12; c++) {
            new UnitMaker(fullName(c)).extending(fullName((c + 5) % 12)).loadInto(x);
            if (c == 7) {
                x.freeze(0);
            }
        }
        for (int i = 0; i < 10; i++) {
            x.type('k');
        }
        UnitMaker.put(x, fullUnit());
        return x;
    }

    private static String fullName(int c) {
        return (c % 2 == 0 ? "s." : "o.") + (char) ('a' + c);
    }

    /** 120 bytes that are the unit of a class of the full scene. */
    private static int[] fullUnit() {
        UnitMaker maker = new UnitMaker("s.a");
        for (int m = 0; m < 4; m++) {
            maker.method("k", 30 + m).raw(new int[m < 3 ? 24 : 19]);
        }
        return maker.bytes();
    }

    /** Every answer that can be had, those of calls that change something last. */
    static List<String> look(PackageRules x) {
        List<String> seen = new ArrayList<>();
        seen.add("bytes " + x.bytes());
        seen.add("slices " + x.slices(1) + " " + x.slices(2));
        int classes = x.classes();
        seen.add("classes " + classes);
        for (int c = 0; c < classes; c++) {
            lookAtClass(x, c, seen);
        }
        for (int r = 0; r < 6; r++) {
            lookAtRule(x, r, seen);
        }
        int loaded = x.load();
        seen.add("load " + loaded);
        if (loaded >= 0) {
            lookAtClass(x, loaded, seen);
        }
        lookAtTyped(x, seen);
        seen.add("rule " + x.rule(3, 1, 0) + " " + x.rule(3, 2, 0));
        // What the lists know, though there is no such violation now.
        seen.add("load " + firstUser().loadInto(x));
        for (int r = 0; r < 3; r++) {
            lookAtRule(x, r, seen);
        }
        return seen;
    }

    private static void lookAtClass(PackageRules x, int c, List<String> seen) {
        StringBuilder name = new StringBuilder();
        int code = x.name(c, 0);
        for (int j = 1; code >= 0; j++) {
            name.append((char) code);
            code = x.name(c, j);
        }
        seen.add("class " + c + " " + name + " " + x.circular(c));
        int occurrences = x.occurrences(c);
        for (int i = 0; i < occurrences; i++) {
            seen.add("occurrence " + c + " " + i + ": " + x.kind(c, i) + " " + x.line(c, i) + " " + x.named(c, i) + " "
                    + x.target(c, i));
        }
        for (int p = 0; p < 6; p++) {
            seen.add("pattern " + p + " " + c + ": " + x.fits(p, c));
        }
    }

    private static void lookAtRule(PackageRules x, int r, List<String> seen) {
        int violations = x.violations(r);
        seen.add("rule " + r + ": " + violations);
        for (int i = 0; i < violations; i++) {
            seen.add("violation " + r + " " + i + ": " + x.violation(r, i));
        }
    }

    private static void lookAtTyped(PackageRules x, List<String> seen) {
        int p = x.pattern();
        seen.add("pattern " + p);
        for (int c = 0; p >= 0 && c < x.classes(); c++) {
            seen.add("typed, now pattern " + p + " " + c + ": " + x.fits(p, c));
        }
        int more = 0;
        while (more < 12 && x.type('z')) {
            more++;
        }
        seen.add("room to type " + more);
    }
}
