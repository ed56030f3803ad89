/** The boundaries of promises 4 and 11 to 16, and of the terms on classes and occurrences. */
final class ClassEdgesTest {
    private static final Check check = new Check();

    public static void main(String[] args) {
        order();
        place();
        knownStays();
        faultyUnit();
        thirteenth();
        numberOfClasses();
        names();
        mostOccurrences();
        numbersOfOccurrences();
        parentsFirst();
        constants();
        lines();
        stepsOfOwnCode();
        named();
        check.end();
    }

    private static String letter(int i) {
        return String.valueOf((char) ('a' + i));
    }

    private static PackageRules full() {
        PackageRules x = new PackageRules();
        for (int i = 0; i < 12; i++) {
            check.due("load of class " + i, new UnitMaker("p." + letter(i)).loadInto(x), i);
        }
        return x;
    }

    private static void order() {
        check.sentence("CLASSES, at most 12, have numbers 0, 1, .. in the order in which their names (THIS) were first loaded");
        PackageRules x = new PackageRules();
        String[] names = {"z", "b", "zz", "B", "a.b", "z.z", "b.a", "Z", "a", "c.d.e", "abcdefghij", "a.b.c.d.e"};
        for (int i = 0; i < 12; i++) {
            // A name that a unit only names, or that a faulty one has, is not loaded by that.
            UnitMaker.load(x, Bytes.join(new UnitMaker(names[11 - i]).bytes(), 0));
            check.due("load of " + names[i], new UnitMaker(names[i]).extending(names[(i + 1) % 12]).loadInto(x), i);
            check.due("load of " + names[i / 2] + " again", new UnitMaker(names[i / 2]).loadInto(x), i / 2);
            check.due("classes()", x.classes(), i + 1);
        }
    }

    private static void place() {
        check.sentence("a unit with the name of a class that is there takes its place");
        PackageRules x = new PackageRules();
        new UnitMaker("A").extending("B").with("B", "C", "B").field("f").method("m", 9).use(UnitMaker.NEW, "C").loadInto(x);
        new UnitMaker("B").loadInto(x);
        check.due("the first again", new UnitMaker("A").loadInto(x), 0);
        check.due("it has nothing of what it had", x.occurrences(0), 0);
        check.due("the last again", new UnitMaker("B").extending("A").loadInto(x), 1);
        check.due("it has what it has now", x.occurrences(1), 1);
        check.due("classes()", x.classes(), 2);
        // Names that begin alike, or differ in one letter's size, are others.
        String[] others = {"a", "AA", "A.A", "A.a", "B.A"};
        for (int i = 0; i < others.length; i++) {
            check.due("load of " + others[i], new UnitMaker(others[i]).loadInto(x), 2 + i);
        }
    }

    private static void knownStays() {
        check.sentence("(its number, and what lists of rules know of it, stay)");
        PackageRules x = new PackageRules();
        UnitMaker.pattern(x, "#");
        x.rule(0, 0, 0);
        new UnitMaker("Z").loadInto(x);
        new UnitMaker("A").extending("B").loadInto(x);
        check.due("freeze(0)", x.freeze(0), 1);
        check.due("A without anything", new UnitMaker("A").loadInto(x), 1);
        check.due("violations(0) without anything", x.violations(0), 0);
        check.due("A as before", new UnitMaker("A").extending("B").loadInto(x), 1);
        check.due("violations(0) as before", x.violations(0), 0);
        check.due("A with more", new UnitMaker("A").extending("B").with("B").loadInto(x), 1);
        check.due("violations(0) with more", x.violations(0), 1);
        check.due("violation(0, 0) with more", x.violation(0, 0), 65);
    }

    private static void faultyUnit() {
        check.sentence("-1 - k if it is faulty at the offset k;");
        PackageRules x = new PackageRules();
        new UnitMaker("A").extending("A").loadInto(x);
        int[] whole = new UnitMaker("A").bytes();
        for (int k = 0; k < whole.length; k++) {
            check.due("faulty at " + k, UnitMaker.load(x, java.util.Arrays.copyOf(whole, k)), -1 - k);
            check.due("bytes() behind it", x.bytes(), 0);
            check.due("classes() behind it", x.classes(), 1);
            check.due("occurrences(0) behind it", x.occurrences(0), 1);
        }
        PackageRules y = full();
        check.due("faulty, with a new name, and 12 are there", UnitMaker.load(y, Bytes.join(whole, 0)), -1 - whole.length);
    }

    private static void thirteenth() {
        check.sentence("-1000 if it is not faulty, but its class is none of those that are there, and there are 12"
                + " (in both cases nothing else changes).");
        PackageRules x = full();
        for (int i = 0; i < 3; i++) {
            check.due("a thirteenth", new UnitMaker("q").extending("p.a").loadInto(x), -1000);
            check.due("bytes()", x.bytes(), 0);
            check.due("classes()", x.classes(), 12);
            check.due("name(12, 0)", x.name(12, 0), -1);
            check.due("occurrences(12)", x.occurrences(12), -1);
        }
        check.due("an empty buffer behind it", x.load(), -1);
        for (int i = 0; i < 12; i++) {
            check.due("load of one that is there", new UnitMaker("p." + letter(i)).extending("q").loadInto(x), i);
            check.due("occurrences", x.occurrences(i), 1);
            check.due("named: q is not there", x.named(i, 0), -1);
        }
        for (int i = 0; i < 12; i++) {
            check.due("its name", x.name(i, 2), 'a' + i);
        }
        PackageRules y = new PackageRules();
        for (int i = 0; i < 11; i++) {
            new UnitMaker("p." + letter(i)).loadInto(y);
        }
        check.due("a twelfth", new UnitMaker("q").loadInto(y), 11);
        check.due("a thirteenth", new UnitMaker("r").loadInto(y), -1000);
        check.due("the twelfth again", new UnitMaker("q").loadInto(y), 11);
    }

    private static void numberOfClasses() {
        check.sentence("The number of classes.");
        PackageRules x = new PackageRules();
        check.due("none", x.classes(), 0);
        for (int i = 0; i < 14; i++) {
            new UnitMaker(letter(i)).loadInto(x);
            check.due("behind load " + i, x.classes(), Math.min(i + 1, 12));
            new UnitMaker(letter(0)).loadInto(x);
            x.load();
            check.due("behind one that is there, and a faulty one", x.classes(), Math.min(i + 1, 12));
        }
    }

    private static void names() {
        check.sentence("The code of character j (from 0) of the name of class c; -1 if there is none.");
        PackageRules x = new PackageRules();
        String[] names = {"a", "abcdefghij", "klmnopqrst", "uvwxyzABCD", "EFGHIJKLMN", "OPQRSTUVWX", "Y.Z", "a.b.c.d.e"};
        for (String name : names) {
            new UnitMaker(name).loadInto(x);
        }
        for (int c = 0; c < names.length; c++) {
            for (int j = 0; j < names[c].length(); j++) {
                check.due("name(" + c + ", " + j + ")", x.name(c, j), names[c].charAt(j));
            }
            check.due("name(" + c + ", its length)", x.name(c, names[c].length()), -1);
        }
        for (int j : Ints.noNumberOf(1)) {
            check.due("name(0, " + j + ")", x.name(0, j), -1);
        }
        for (int j : Ints.noNumberOf(10)) {
            check.due("name(1, " + j + ")", x.name(1, j), -1);
        }
        for (int c : Ints.noNumberOf(names.length)) {
            check.due("name(" + c + ", 0)", x.name(c, 0), -1);
        }
        check.due("name(-1, -1)", x.name(-1, -1), -1);
    }

    /** As many occurrences as 120 bytes can have: 4 parents and 46 instructions. */
    private static void mostOccurrences() {
        check.sentence("How many occurrences class c has; -1 if there is no class c.");
        PackageRules x = new PackageRules();
        UnitMaker most = new UnitMaker("A").extending("A").with("A", "A", "A");
        for (int m = 0; m < 4; m++) {
            most.method("A", 200 + m);
            for (int i = 0; i < (m < 3 ? 12 : 10); i++) {
                most.use(UnitMaker.TEST, "A");
            }
        }
        most.raw(0);
        check.due("the length of the unit", most.bytes().length, 120);
        check.due("load()", most.loadInto(x), 0);
        check.due("occurrences(0)", x.occurrences(0), 50);
        for (int i = 0; i < 50; i++) {
            check.due("kind(0, " + i + ")", x.kind(0, i), i == 0 ? 7 : i < 4 ? 8 : 5);
            check.due("line(0, " + i + ")", x.line(0, i), i < 4 ? 0 : 200 + (i - 4) / 12);
            check.due("named(0, " + i + ")", x.named(0, i), 0);
        }
        check.due("kind(0, 50)", x.kind(0, 50), -1);
        check.due("line(0, 50)", x.line(0, 50), -1);
        check.due("named(0, 50)", x.named(0, 50), -1);
        check.due("target(0, 50)", x.target(0, 50), -1);
        check.due("a class without any", new UnitMaker("B").loadInto(x), 1);
        check.due("occurrences(1)", x.occurrences(1), 0);
        for (int c : Ints.noNumberOf(2)) {
            check.due("occurrences(" + c + ")", x.occurrences(c), -1);
        }
        new UnitMaker("A").loadInto(x);
        check.due("occurrences(0) behind an empty unit", x.occurrences(0), 0);
        check.due("kind(0, 0) behind an empty unit", x.kind(0, 0), -1);
    }

    private static void numbersOfOccurrences() {
        PackageRules x = new PackageRules();
        new UnitMaker("A").extending("A").method("m").call("A", "m").loadInto(x);
        new UnitMaker("B").loadInto(x);
        check.sentence("The kind of occurrence i of class c; -1 if there is none.");
        for (int i : Ints.noNumberOf(2)) {
            check.due("kind(0, " + i + ")", x.kind(0, i), -1);
        }
        for (int c : Ints.noNumberOf(1)) {
            check.due("kind(" + c + ", 0)", x.kind(c, 0), -1);
        }
        check.sentence("The line of occurrence i of class c; -1 if there is none.");
        for (int i : Ints.noNumberOf(2)) {
            check.due("line(0, " + i + ")", x.line(0, i), -1);
        }
        for (int c : Ints.noNumberOf(1)) {
            check.due("line(" + c + ", 0)", x.line(c, 0), -1);
        }
        PackageRules y = new PackageRules();
        new UnitMaker("A").extending("A").method("m").call("A", "m").loadInto(y);
        new UnitMaker("B").loadInto(y);
        check.sentence("-1 if that is not loaded, or there is no such occurrence.");
        for (int i : Ints.noNumberOf(2)) {
            check.due("named(0, " + i + ")", y.named(0, i), -1);
        }
        for (int c : Ints.noNumberOf(1)) {
            check.due("named(" + c + ", 0)", y.named(c, 0), -1);
        }
    }

    private static void row(PackageRules x, int i, int kind, int line) {
        check.due("kind(0, " + i + ")", x.kind(0, i), kind);
        check.due("line(0, " + i + ")", x.line(0, i), line);
    }

    private static void parentsFirst() {
        check.sentence("first SUPER (7, if there is one) and INTERFACES (8), in their order, with the line 0;");
        PackageRules x = new PackageRules();
        new UnitMaker("B").loadInto(x);
        check.due("neither", x.occurrences(0), 0);
        new UnitMaker("B").extending("S").method("m", 5).use(UnitMaker.NEW, "B").loadInto(x);
        row(x, 0, 7, 0);
        row(x, 1, 3, 5);
        new UnitMaker("B").with("S").method("m", 5).use(UnitMaker.NEW, "B").loadInto(x);
        row(x, 0, 8, 0);
        row(x, 1, 3, 5);
        new UnitMaker("S").loadInto(x);
        new UnitMaker("T").loadInto(x);
        new UnitMaker("B").with("T", "S", "T").extending("S").method("m", 5).use(UnitMaker.NEW, "B").loadInto(x);
        int[] named = {1, 2, 1, 2, 0};
        for (int i = 0; i < 5; i++) {
            row(x, i, i == 0 ? 7 : i < 4 ? 8 : 3, i < 4 ? 0 : 5);
            check.due("named(0, " + i + ")", x.named(0, i), named[i]);
        }
        row(x, 5, -1, -1);
    }

    private static void constants() {
        check.sentence("and CONST (6, if it is a CLASS)");
        PackageRules x = new PackageRules();
        UnitMaker maker = new UnitMaker("A").method("m", 3);
        maker.raw(UnitMaker.CONST, maker.textNumber("A"));
        maker.raw(UnitMaker.CONST, maker.textNumber("a.b"));
        maker.loadInto(x);
        check.due("CONST of texts alone", x.occurrences(0), 0);
        maker.use(UnitMaker.CONST, "A").loadInto(x);
        check.due("and of a class", x.occurrences(0), 1);
        row(x, 0, 6, 3);
        check.due("named(0, 0)", x.named(0, 0), 0);
        check.due("target(0, 0)", x.target(0, 0), -1);
    }

    private static void lines() {
        check.sentence("(as it stands, whatever is done; sums may be above 255)");
        PackageRules x = new PackageRules();
        new UnitMaker("A").method("m", 0).use(UnitMaker.NEW, "A").step(0).use(UnitMaker.NEW, "A").loadInto(x);
        row(x, 0, 3, 0);
        row(x, 1, 3, 0);
        new UnitMaker("A").method("m", 255).use(UnitMaker.NEW, "A").step(0).use(UnitMaker.NEW, "A").step(1)
                .use(UnitMaker.NEW, "A").step(255).use(UnitMaker.NEW, "A").loadInto(x);
        row(x, 0, 3, 255);
        row(x, 1, 3, 255);
        row(x, 2, 3, 256);
        row(x, 3, 3, 511);
        UnitMaker greatest = new UnitMaker("A").method("m", 255);
        for (int i = 0; i < 11; i++) {
            greatest.step(255);
        }
        greatest.use(UnitMaker.NEW, "A").loadInto(x);
        row(x, 0, 3, 255 * 12);
        // A SWITCH may go to any place: the STEPs before an instruction are those that stand before it.
        new UnitMaker("A").method("m", 7).raw(170, 0, 0, 0, 1, 8).step(9).use(UnitMaker.CAST, "A").step(2).loadInto(x);
        row(x, 0, 4, 16);
    }

    private static void stepsOfOwnCode() {
        check.sentence("with the line of the method plus all STEPs' bytes before the instruction in its code");
        PackageRules x = new PackageRules();
        new UnitMaker("A").method("m", 10).step(100).use(UnitMaker.NEW, "A").step(50)
                .method("n", 20).use(UnitMaker.NEW, "A").step(1).use(UnitMaker.NEW, "A")
                .method("o", 30).method("p", 40).use(UnitMaker.NEW, "A").loadInto(x);
        row(x, 0, 3, 110);
        row(x, 1, 3, 20);
        row(x, 2, 3, 21);
        row(x, 3, 3, 40);
        // A byte 25 that is no instruction is no STEP.
        new UnitMaker("A").method("m", 10).raw(16, 25, 16, 25).use(UnitMaker.NEW, "A")
                .raw(0, 170, 4, 5, 5, 5, 5).use(UnitMaker.NEW, "A").step(25).use(UnitMaker.NEW, "A").loadInto(x);
        row(x, 0, 3, 10);
        row(x, 1, 3, 10);
        row(x, 2, 3, 35);
    }

    private static void named() {
        check.sentence("The class that occurrence i of class c names;");
        PackageRules x = full();
        UnitMaker all = new UnitMaker("p.a").method("m");
        for (int i = 11; i >= 4; i--) {
            all.use(UnitMaker.NEW, "p." + letter(i));
        }
        all.use(UnitMaker.NEW, "p.z").loadInto(x);
        for (int i = 0; i < 8; i++) {
            check.due("named(0, " + i + ")", x.named(0, i), 11 - i);
        }
        check.due("named(0, 8), not loaded", x.named(0, 8), -1);
        check.due("p.z has no room", new UnitMaker("p.z").loadInto(x), -1000);
        check.due("named(0, 8), still not loaded", x.named(0, 8), -1);
    }
}
