/** The boundaries of promises 17 and 18, and of the terms on parents, circles and targets. */
final class TargetEdgesTest {
    private static final Check check = new Check();

    public static void main(String[] args) {
        loadedParents();
        circlesOfAllLengths();
        belowACircle();
        noCircle();
        circularNumbers();
        notLoaded();
        namedIsCircular();
        foundBelowACircle();
        nothingFound();
        unloadedHaveNothing();
        interfacesInOrder();
        fieldOverInterfaces();
        superChain();
        superInterfaces();
        faces();
        nothingLeft();
        noAccess();
        numbers();
        manyAccesses();
        check.end();
    }

    private static String letter(int i) {
        return String.valueOf((char) ('a' + i));
    }

    /** A class U, number 0: GET of C.w is its occurrence 0, SET 1, CALL 2. */
    private static PackageRules user() {
        PackageRules x = new PackageRules();
        new UnitMaker("U").method("u").get("C", "w").set("C", "w").call("C", "w").loadInto(x);
        return x;
    }

    private static void targets(String what, PackageRules x, int field, int method) {
        check.due(what + ": GET", x.target(0, 0), field);
        check.due(what + ": SET", x.target(0, 1), field);
        check.due(what + ": CALL", x.target(0, 2), method);
    }

    private static void loadedParents() {
        check.sentence("PARENTS of a class are the classes (those loaded alone) that its SUPER and INTERFACES name.");
        PackageRules x = new PackageRules();
        new UnitMaker("A").extending("B").loadInto(x);
        check.due("B is not loaded", x.circular(0), false);
        new UnitMaker("B").with("C", "D", "A").loadInto(x);
        check.due("A over B", x.circular(0), true);
        check.due("B over A, its third interface", x.circular(1), true);
        // Other occurrences make no parents.
        new UnitMaker("B").method("m").use(UnitMaker.NEW, "A").use(UnitMaker.CAST, "A").use(UnitMaker.TEST, "A")
                .use(UnitMaker.CONST, "A").get("A", "m").set("A", "m").call("A", "m").loadInto(x);
        check.due("A over B, which only uses it", x.circular(0), false);
        check.due("B, which only uses A", x.circular(1), false);
    }

    private static void circlesOfAllLengths() {
        check.sentence("A class is CIRCULAR if it, or one of its ancestors, is an ancestor of itself.");
        for (int length = 1; length <= 12; length++) {
            PackageRules x = new PackageRules();
            for (int i = 0; i < length; i++) {
                UnitMaker maker = new UnitMaker(letter(i));
                String next = letter((i + 1) % length);
                if (i % 2 == 0) {
                    maker.extending(next);
                } else {
                    maker.with("q", "r", next);
                }
                check.due("before the circle is closed", x.circular(0), false);
                maker.loadInto(x);
            }
            for (int i = 0; i < length; i++) {
                check.due("a circle of " + length + ": " + i, x.circular(i), true);
            }
            new UnitMaker(letter(length - 1)).loadInto(x);
            for (int i = 0; i < length; i++) {
                check.due("the circle cut: " + i, x.circular(i), false);
            }
        }
    }

    private static void belowACircle() {
        check.sentence("or one of its ancestors, is an ancestor of itself.");
        PackageRules x = new PackageRules();
        for (int i = 0; i < 11; i++) {
            new UnitMaker(letter(i)).extending(letter(i + 1)).loadInto(x);
        }
        new UnitMaker("l").with("l").loadInto(x);
        for (int i = 0; i < 12; i++) {
            check.due("class " + i + " of a chain to a circular class", x.circular(i), true);
        }
        // Who is above a circle is not circular by that.
        new UnitMaker("k").loadInto(x);
        new UnitMaker("j").with("k", "j").loadInto(x);
        check.due("above the circle", x.circular(10), false);
        check.due("in the circle", x.circular(9), true);
        check.due("below the circle", x.circular(0), true);
        check.due("beside it, in its own", x.circular(11), true);
    }

    private static void noCircle() {
        check.sentence("ANCESTORS are its parents, their parents, and so on.");
        PackageRules x = new PackageRules();
        // Many ways lead up, none back.
        for (int i = 0; i < 11; i++) {
            String last = i == 10 ? "l" : letter(i + 2);
            new UnitMaker(letter(i)).extending("l").with(letter(i + 1), last, letter(i + 1)).loadInto(x);
        }
        new UnitMaker("l").loadInto(x);
        for (int i = 0; i < 12; i++) {
            check.due("class " + i + " without a circle", x.circular(i), false);
        }
    }

    private static void circularNumbers() {
        check.sentence("Whether class c is circular; false if there is none.");
        PackageRules x = new PackageRules();
        for (int c : Ints.noNumberOf(0)) {
            check.due("circular(" + c + ") without a class", x.circular(c), false);
        }
        PackageRules y = new PackageRules();
        new UnitMaker("A").extending("A").loadInto(y);
        check.due("circular(0)", y.circular(0), true);
        for (int c : Ints.noNumberOf(1)) {
            check.due("circular(" + c + ") with one class", y.circular(c), false);
        }
        PackageRules z = new PackageRules();
        for (int i = 0; i < 12; i++) {
            new UnitMaker(letter(i)).with(letter(i)).loadInto(z);
        }
        for (int c = 0; c < 12; c++) {
            check.due("circular(" + c + ")", z.circular(c), true);
        }
        for (int c : Ints.noNumberOf(12)) {
            check.due("circular(" + c + ") with twelve classes", z.circular(c), false);
        }
    }

    private static void notLoaded() {
        check.sentence("The TARGET of an access to the word w: none, if the class that it names is not loaded or is circular.");
        PackageRules x = user();
        targets("C is not loaded", x, -1, -1);
        new UnitMaker("D").field("w").method("w").loadInto(x);
        targets("another class is", x, -1, -1);
        UnitMaker.load(x, Bytes.join(new UnitMaker("C").field("w").method("w").bytes(), 0));
        targets("a faulty C", x, -1, -1);
        new UnitMaker("C").field("w").method("w").loadInto(x);
        targets("C is loaded", x, 2, 2);
    }

    private static void namedIsCircular() {
        check.sentence("none, if the class that it names is not loaded or is circular.");
        PackageRules x = user();
        new UnitMaker("C").field("w").method("w").extending("D").loadInto(x);
        targets("C", x, 1, 1);
        new UnitMaker("D").with("C").field("w").method("w").loadInto(x);
        targets("C and D", x, -1, -1);
        new UnitMaker("D").with("E").loadInto(x);
        targets("D over E, not loaded", x, 1, 1);
        new UnitMaker("E").extending("E").loadInto(x);
        targets("C below E, which is circular", x, -1, -1);
        // The class with the access may be circular; it is the named one that counts.
        new UnitMaker("E").loadInto(x);
        new UnitMaker("U").extending("U").method("u").get("C", "w").loadInto(x);
        check.due("the user is circular", x.circular(0), true);
        check.due("its target", x.target(0, 1), 1);
    }

    private static void foundBelowACircle() {
        check.sentence("A class is CIRCULAR if it, or one of its ancestors, is an ancestor of itself.");
        PackageRules x = user();
        new UnitMaker("C").with("I", "J").loadInto(x);
        new UnitMaker("I").field("w").method("w").loadInto(x);
        targets("in I", x, 2, 2);
        new UnitMaker("J").with("J").loadInto(x);
        targets("J is circular, so C is", x, -1, -1);
    }

    private static void nothingFound() {
        check.sentence("none, if nothing is found");
        PackageRules x = user();
        new UnitMaker("C").extending("S").with("I", "J").field("v").method("v").loadInto(x);
        new UnitMaker("S").field("W").method("ww").loadInto(x);
        new UnitMaker("I").method("W").field("x").loadInto(x);
        new UnitMaker("J").loadInto(x);
        targets("no w anywhere", x, -1, -1);
        new UnitMaker("J").field("w").loadInto(x);
        targets("a field w", x, 4, -1);
        new UnitMaker("J").method("w").loadInto(x);
        targets("a method w", x, -1, 4);
        for (int place = 0; place < 4; place++) {
            UnitMaker four = new UnitMaker("J");
            for (int i = 0; i < 4; i++) {
                four.field(i == place ? "w" : "v").method(i == place ? "w" : "v");
            }
            four.loadInto(x);
            targets("w in place " + place, x, 4, 4);
        }
    }

    private static void unloadedHaveNothing() {
        check.sentence("(classes that are not loaded have nothing)");
        PackageRules x = user();
        new UnitMaker("C").extending("S").with("I", "J", "K").loadInto(x);
        targets("no parent is loaded", x, -1, -1);
        new UnitMaker("K").field("w").method("w").loadInto(x);
        targets("the third interface alone", x, 2, 2);
        new UnitMaker("K").extending("Q").with("R").loadInto(x);
        targets("it has but parents that are not loaded", x, -1, -1);
        new UnitMaker("S").field("w").method("w").loadInto(x);
        targets("SUPER", x, 3, 3);
    }

    private static void interfacesInOrder() {
        check.sentence("else the first that is found as FIELD of c's interfaces, in their order; else FIELD of its SUPER;");
        PackageRules x = user();
        new UnitMaker("C").extending("S").with("I", "J", "K").loadInto(x);
        new UnitMaker("S").field("w").method("w").loadInto(x);
        new UnitMaker("K").field("w").method("w").loadInto(x);
        targets("K before S for a field, S before K for a method", x, 3, 2);
        new UnitMaker("J").field("w").method("w").loadInto(x);
        targets("J before K", x, 4, 2);
        new UnitMaker("I").field("w").method("w").loadInto(x);
        targets("I before J", x, 5, 2);
        new UnitMaker("I").extending("S").loadInto(x);
        targets("SUPER of I before J", x, 2, 2);
        new UnitMaker("C").extending("S").with("I", "J", "K").field("w").method("w").loadInto(x);
        targets("C before all", x, 1, 1);
    }

    /** All twelve classes in a chain, the user among them; the word is in the last, then in each one before it. */
    private static void superChain() {
        check.sentence("For a method: the first among c, its SUPER, its SUPER's SUPER and so on that has a method w;");
        PackageRules x = new PackageRules();
        new UnitMaker("a").extending("b").method("u").get("a", "w").set("a", "w").call("a", "w").loadInto(x);
        for (int i = 1; i < 11; i++) {
            new UnitMaker(letter(i)).extending(letter(i + 1)).loadInto(x);
        }
        new UnitMaker("l").loadInto(x);
        check.due("nothing yet: GET", x.target(0, 1), -1);
        check.due("nothing yet: CALL", x.target(0, 3), -1);
        for (int i = 11; i > 0; i--) {
            UnitMaker maker = new UnitMaker(letter(i)).field("w").method("w");
            if (i < 11) {
                maker.extending(letter(i + 1));
            }
            maker.loadInto(x);
            check.due("in class " + i + ": GET", x.target(0, 1), i);
            check.due("in class " + i + ": SET", x.target(0, 2), i);
            check.due("in class " + i + ": CALL", x.target(0, 3), i);
        }
    }

    private static void fieldOverInterfaces() {
        check.sentence("else the first that is found as FIELD of c's interfaces, in their order;");
        PackageRules x = new PackageRules();
        new UnitMaker("a").with("x", "y", "b").method("u").get("a", "w").loadInto(x);
        for (int i = 1; i < 11; i++) {
            new UnitMaker(letter(i)).with("x", "y", letter(i + 1)).loadInto(x);
        }
        new UnitMaker("l").field("w").loadInto(x);
        check.due("over eleven interfaces", x.target(0, 3), 11);
        new UnitMaker("k").extending("l").loadInto(x);
        check.due("over ten, and a SUPER", x.target(0, 3), 11);
    }

    private static void superInterfaces() {
        check.sentence("else, for each of these in this order and each of its interfaces in their order,"
                + " the first that is found as FACE(i)");
        PackageRules x = user();
        new UnitMaker("C").extending("S").loadInto(x);
        new UnitMaker("S").extending("T").with("H", "I").loadInto(x);
        new UnitMaker("T").with("J").loadInto(x);
        new UnitMaker("J").method("w").loadInto(x);
        targets("an interface of SUPER's SUPER", x, -1, 4);
        new UnitMaker("I").method("w").loadInto(x);
        targets("an interface of SUPER before it", x, -1, 5);
        new UnitMaker("H").method("w").loadInto(x);
        targets("its first interface before its second", x, -1, 6);
        new UnitMaker("C").extending("S").with("K").loadInto(x);
        new UnitMaker("K").with("J").loadInto(x);
        targets("an interface's interface of C before those", x, -1, 4);
        new UnitMaker("T").with("J").method("w").loadInto(x);
        targets("a method of SUPER's SUPER before all faces", x, -1, 3);
    }

    private static void faces() {
        check.sentence("FACE(i): i, if it has a method w, else the first that is found as FACE of i's interfaces, in their order.");
        PackageRules x = new PackageRules();
        new UnitMaker("a").with("x", "y", "b").method("u").call("a", "w").loadInto(x);
        for (int i = 1; i < 11; i++) {
            new UnitMaker(letter(i)).with("x", "y", letter(i + 1)).loadInto(x);
        }
        new UnitMaker("l").method("w").loadInto(x);
        check.due("over eleven interfaces", x.target(0, 3), 11);
        new UnitMaker("k").extending("l").loadInto(x);
        check.due("SUPER of an interface is no FACE", x.target(0, 3), -1);
        new UnitMaker("j").extending("l").with("k", "l").loadInto(x);
        check.due("its second interface is one", x.target(0, 3), 11);
        new UnitMaker("k").method("w").loadInto(x);
        check.due("its first one is before it", x.target(0, 3), 10);
    }

    private static void nothingLeft() {
        check.sentence("a unit with the name of a class that is there takes its place");
        UnitMaker[] before = {
            new UnitMaker("C").extending("S"), new UnitMaker("C").with("S"), new UnitMaker("C").with("Q", "S"),
            new UnitMaker("C").with("Q", "Q", "S"), new UnitMaker("C").field("w").method("w"),
            new UnitMaker("C").field("v").field("w").method("v").method("w"), new UnitMaker("C").extending("C")
        };
        UnitMaker[] behind = {
            new UnitMaker("C"), new UnitMaker("C").with("Q"), new UnitMaker("C").with("Q", "Q"),
            new UnitMaker("C").field("v").method("v"), new UnitMaker("C").extending("Q")
        };
        for (UnitMaker first : before) {
            for (UnitMaker second : behind) {
                nothingLeft(first, second);
            }
        }
    }

    /** Asked of C itself, and of D, whose interface C is; the later unit is loaded twice, as rows may be used again. */
    private static void nothingLeft(UnitMaker first, UnitMaker second) {
        PackageRules x = new PackageRules();
        new UnitMaker("U").method("u").get("C", "w").get("D", "w").call("C", "w").call("D", "w").loadInto(x);
        new UnitMaker("S").field("w").method("w").loadInto(x);
        new UnitMaker("D").with("C").loadInto(x);
        first.loadInto(x);
        for (int times = 1; times <= 2; times++) {
            second.loadInto(x);
            for (int i = 0; i < 4; i++) {
                check.due("nothing of the unit before: target(0, " + i + ")", x.target(0, i), -1);
            }
            check.due("no circle of the unit before", x.circular(3), false);
        }
    }

    private static void noAccess() {
        check.sentence("-1 if there is none, it is no access, or there is no such occurrence.");
        PackageRules x = new PackageRules();
        new UnitMaker("A").extending("B").with("B").method("w").use(UnitMaker.NEW, "B").use(UnitMaker.CAST, "B")
                .use(UnitMaker.TEST, "B").use(UnitMaker.CONST, "B").get("B", "w").set("B", "w").call("B", "w").loadInto(x);
        new UnitMaker("B").field("w").method("w").loadInto(x);
        for (int i = 0; i < 9; i++) {
            check.due("target(0, " + i + ")", x.target(0, i), i < 6 ? -1 : 1);
        }
    }

    private static void numbers() {
        check.sentence("-1 if there is none, it is no access, or there is no such occurrence.");
        PackageRules x = user();
        new UnitMaker("C").field("w").method("w").loadInto(x);
        targets("all", x, 1, 1);
        for (int i : Ints.noNumberOf(3)) {
            check.due("target(0, " + i + ")", x.target(0, i), -1);
        }
        for (int c : Ints.noNumberOf(1)) {
            check.due("target(" + c + ", 0)", x.target(c, 0), -1);
        }
        check.due("target(-1, -1)", x.target(-1, -1), -1);
        // Nothing of a unit with more occurrences is left.
        new UnitMaker("U").method("u").get("C", "w").loadInto(x);
        check.due("target(0, 0)", x.target(0, 0), 1);
        check.due("target(0, 1), gone", x.target(0, 1), -1);
    }

    /** As many accesses as 120 bytes hold: four methods A that call A.A 12, 12, 12 and 10 times. */
    private static void manyAccesses() {
        check.sentence("The target of occurrence i of class c; -1 if there is none, it is no access, or there is no such occurrence.");
        int[] unit = {197, 3, 1, 1, 'A', 7, 1, 10, 2, 1, 2, 0, 0, 0, 4};
        for (int m = 0; m < 4; m++) {
            int calls = m < 3 ? 12 : 10;
            unit = Bytes.join(Bytes.join(unit, 1, m, 2 * calls), Bytes.times(calls, UnitMaker.CALL, 3));
        }
        PackageRules x = new PackageRules();
        check.due("load of " + unit.length + " bytes", UnitMaker.load(x, unit), 0);
        check.due("occurrences(0)", x.occurrences(0), 46);
        for (int i = 0; i < 46; i++) {
            check.due("target(0, " + i + ")", x.target(0, i), 0);
            check.due("line(0, " + i + ")", x.line(0, i), i / 12);
        }
        check.due("target(0, 46)", x.target(0, 46), -1);
        check.due("line(0, 46)", x.line(0, 46), -1);
    }
}
