/** The boundaries of promise 20, and of the terms on the rule CYCLES. */
final class SliceEdgesTest {
    private static final Check check = new Check();

    public static void main(String[] args) {
        depths();
        moreThanWords();
        firstWords();
        withAClass();
        twelveSlices();
        neverToItself();
        loadedClasses();
        waysOfAllLengths();
        overOtherSlices();
        leastNumber();
        classesWithoutSlice();
        secondDepth();
        alwaysNew();
        check.end();
    }

    private static void found(String what, PackageRules x, int r, int... classes) {
        check.due(what + ": violations", x.violations(r), classes.length);
        for (int i = 0; i < classes.length; i++) {
            check.due(what + ": violation " + i, x.violation(r, i), 64 * classes[i] + 63);
        }
        check.due(what + ": violation " + classes.length, x.violation(r, classes.length), -1);
        check.due(what + ": violation -1", x.violation(r, -1), -1);
    }

    private static PackageRules cycles(int depth) {
        PackageRules x = new PackageRules();
        x.rule(3, depth, 0);
        return x;
    }

    private static void depths() {
        check.sentence("The number of slices at the depth d (1 or 2; those with a class in them); -1 for another d.");
        PackageRules x = new PackageRules();
        for (int d : Ints.outside(1, 2)) {
            check.due("no class: slices(" + d + ")", x.slices(d), -1);
        }
        new UnitMaker("a.b.c.d.e").loadInto(x);
        for (int d : Ints.outside(1, 2)) {
            check.due("one class: slices(" + d + ")", x.slices(d), -1);
        }
        check.due("slices(1)", x.slices(1), 1);
        check.due("slices(2)", x.slices(2), 1);
    }

    private static void moreThanWords() {
        check.sentence("the SLICE of a class is the first d words of its name, if that has more than d words (else it is in none).");
        String[] names = {"a", "abcdefghij", "a.b", "abcd.efghi", "a.b.c", "ab.cde.fgh", "a.b.c.d", "a.b.c.d.e"};
        int[] words = {1, 1, 2, 2, 3, 3, 4, 5};
        for (int i = 0; i < names.length; i++) {
            PackageRules x = new PackageRules();
            new UnitMaker(names[i]).loadInto(x);
            check.due("slices(1) of " + names[i], x.slices(1), words[i] > 1 ? 1 : 0);
            check.due("slices(2) of " + names[i], x.slices(2), words[i] > 2 ? 1 : 0);
        }
    }

    private static void firstWords() {
        check.sentence("the SLICE of a class is the first d words of its name");
        String[] names = {"a.x.p", "a.y.p", "a.x.q", "ab.x.p", "a.xy.p", "A.x.p", "a.x.p.q", "a.x", "ax.p.q", "aa.x.p"};
        int[] one = {1, 1, 1, 2, 2, 3, 3, 3, 4, 5};
        int[] two = {1, 2, 2, 3, 4, 5, 5, 5, 6, 7};
        PackageRules x = new PackageRules();
        for (int i = 0; i < names.length; i++) {
            new UnitMaker(names[i]).loadInto(x);
            check.due("slices(1) with " + names[i], x.slices(1), one[i]);
            check.due("slices(2) with " + names[i], x.slices(2), two[i]);
        }
    }

    private static void withAClass() {
        check.sentence("those with a class in them");
        PackageRules x = new PackageRules();
        check.due("no class: slices(1)", x.slices(1), 0);
        check.due("no class: slices(2)", x.slices(2), 0);
        new UnitMaker("a.b.A").extending("c.d.A").with("e.f.A").loadInto(x);
        check.due("what is named is not in one: slices(1)", x.slices(1), 1);
        check.due("what is named is not in one: slices(2)", x.slices(2), 1);
        UnitMaker.load(x, Bytes.join(new UnitMaker("c.d.A").bytes(), 0));
        check.due("nor what is faulty: slices(1)", x.slices(1), 1);
        new UnitMaker("a.b.A").loadInto(x);
        check.due("the same again: slices(2)", x.slices(2), 1);
    }

    private static void twelveSlices() {
        check.sentence("The number of slices at the depth d");
        PackageRules x = new PackageRules();
        for (int i = 0; i < 13; i++) {
            new UnitMaker("p." + (char) ('a' + i) + ".A").loadInto(x);
            check.due("slices(1)", x.slices(1), 1);
            check.due("slices(2)", x.slices(2), Math.min(i + 1, 12));
        }
        PackageRules y = new PackageRules();
        for (int i = 0; i < 13; i++) {
            new UnitMaker((char) ('a' + i) + ".A").loadInto(y);
            check.due("slices(1) of two words", y.slices(1), Math.min(i + 1, 12));
            check.due("slices(2) of two words", y.slices(2), 0);
        }
    }

    private static void neverToItself() {
        check.sentence("There is a way from one slice to another one (never to itself)");
        PackageRules x = cycles(1);
        new UnitMaker("a.A").extending("a.A").with("a.B").method("m").call("a.A", "m").loadInto(x);
        new UnitMaker("a.B").extending("a.A").loadInto(x);
        found("one slice", x, 0);
        new UnitMaker("b.A").extending("a.A").loadInto(x);
        found("and a way to it", x, 0);
        new UnitMaker("a.B").extending("b.A").loadInto(x);
        found("and one back", x, 0, 0, 2);
    }

    private static void loadedClasses() {
        check.sentence("if a class of the first has an occurrence that names a (loaded) class of the other.");
        PackageRules x = cycles(1);
        new UnitMaker("a.A").method("m").get("b.B", "w").loadInto(x);
        new UnitMaker("b.A").extending("a.A").loadInto(x);
        found("b.B is not loaded, though b has a class", x, 0);
        new UnitMaker("b.B").loadInto(x);
        found("b.B is loaded", x, 0, 0, 1);
        int[] instructions = {UnitMaker.NEW, UnitMaker.CAST, UnitMaker.TEST, UnitMaker.CONST};
        for (int instruction : instructions) {
            new UnitMaker("a.A").method("m").use(instruction, "b.B").loadInto(x);
            found("by the instruction " + instruction, x, 0, 0, 1);
        }
        UnitMaker text = new UnitMaker("a.A").method("m");
        text.raw(UnitMaker.CONST, text.textNumber("b.B")).loadInto(x);
        found("a text is no occurrence", x, 0);
        new UnitMaker("a.A").with("b.B").loadInto(x);
        found("by an interface", x, 0, 0, 1);
        new UnitMaker("a.A").method("m").call("b.B", "w").loadInto(x);
        found("by a call that has no target", x, 0, 0, 1);
    }

    private static void waysOfAllLengths() {
        check.sentence("Each slice from which one can come back to itself by one or more ways over other slices is a violation;");
        for (int length = 2; length <= 12; length++) {
            PackageRules x = cycles(1);
            int[] all = new int[length];
            for (int i = 0; i < length; i++) {
                all[i] = i;
                char next = (char) ('a' + (i + 1) % length);
                new UnitMaker((char) ('a' + i) + ".A").method("m").use(UnitMaker.CAST, next + ".A").loadInto(x);
            }
            found("a circle of " + length, x, 0, all);
            new UnitMaker((char) ('a' + length - 1) + ".A").loadInto(x);
            found("the circle cut", x, 0);
        }
    }

    /** Two circles, a way between them, one before and one behind: those two slices are in no circle. */
    private static void overOtherSlices() {
        check.sentence("Each slice from which one can come back to itself by one or more ways over other slices is a violation;");
        PackageRules x = cycles(1);
        String[][] ways = {{"s", "a"}, {"a", "b"}, {"b", "a", "c"}, {"c", "d"}, {"d", "c", "t"}, {"t"}};
        for (String[] way : ways) {
            UnitMaker maker = new UnitMaker(way[0] + ".A");
            for (int i = 1; i < way.length; i++) {
                maker.with(way[i] + ".A");
            }
            maker.loadInto(x);
        }
        found("two circles", x, 0, 1, 2, 3, 4);
        new UnitMaker("t.A").with("s.A").loadInto(x);
        found("all in one", x, 0, 0, 1, 2, 3, 4, 5);
        new UnitMaker("b.A").with("a.A").loadInto(x);
        found("apart again", x, 0, 1, 2, 3, 4);
    }

    private static void leastNumber() {
        check.sentence("it stands for the class of the least number in it.");
        PackageRules x = cycles(1);
        String[] names = {"b.A", "a.A", "b.B", "a.B", "b.C", "a.C"};
        for (String name : names) {
            new UnitMaker(name).loadInto(x);
        }
        new UnitMaker("a.C").extending("b.C").loadInto(x);
        found("one way", x, 0);
        new UnitMaker("b.B").extending("a.B").loadInto(x);
        found("b stands for 0, a for 1, though others make the ways", x, 0, 0, 1);
    }

    private static void classesWithoutSlice() {
        check.sentence("(else it is in none)");
        PackageRules x = cycles(1);
        new UnitMaker("A").extending("B").loadInto(x);
        new UnitMaker("B").extending("A").loadInto(x);
        found("in no slice", x, 0);
        new UnitMaker("a.A").extending("A").loadInto(x);
        new UnitMaker("A").extending("b.A").loadInto(x);
        new UnitMaker("b.A").extending("a.A").loadInto(x);
        found("no way over a class in no slice", x, 0);
        new UnitMaker("a.B").extending("b.A").loadInto(x);
        found("a way beside it", x, 0, 2, 3);
    }

    private static void secondDepth() {
        check.sentence("3 CYCLES d: the SLICE of a class is the first d words of its name");
        PackageRules x = cycles(2);
        x.rule(3, 1, 0);
        new UnitMaker("p.a.A").extending("p.b.A").loadInto(x);
        new UnitMaker("p.b.A").extending("p.a.A").loadInto(x);
        found("at the depth 2", x, 0, 0, 1);
        found("at the depth 1", x, 1);
        new UnitMaker("p.b.A").extending("q.a.A").loadInto(x);
        new UnitMaker("q.a.A").extending("p.c.A").loadInto(x);
        new UnitMaker("p.c.A").loadInto(x);
        found("no way back at the depth 2", x, 0);
        found("p and q at the depth 1", x, 1, 0, 2);
        new UnitMaker("p.c.A").extending("p.c").loadInto(x);
        new UnitMaker("p.c").extending("p.a.A").loadInto(x);
        found("p.c itself is in no slice p.c", x, 0);
    }

    private static void alwaysNew() {
        check.sentence("(All violations of CYCLES are new.)");
        PackageRules x = cycles(1);
        new UnitMaker("a.A").extending("b.A").loadInto(x);
        new UnitMaker("b.A").extending("a.A").loadInto(x);
        found("at first", x, 0, 0, 1);
        check.due("freeze(0)", x.freeze(0), -1);
        found("behind freeze", x, 0, 0, 1);
        found("again", x, 0, 0, 1);
    }
}
