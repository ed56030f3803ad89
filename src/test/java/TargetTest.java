/** Promises 17 and 18. */
final class TargetTest {
    private static final Check check = new Check();

    public static void main(String[] args) {
        noAccess();
        fields();
        fieldOrder();
        methods();
        methodOrder();
        circles();
        manyWays();
        lastRows();
        longChain();
        staleUnits();
        wrongNumbers();
        check.end();
    }

    /** An object with a class U, number 0, that gets the field w of C and calls the method w of C: occurrences 0 and 1. */
    private static PackageRules user() {
        PackageRules x = new PackageRules();
        new UnitMaker("U").method("u").get("C", "w").call("C", "w").set("C", "w").loadInto(x);
        return x;
    }

    private static void noAccess() {
        PackageRules x = new PackageRules();
        new UnitMaker("A").extending("A").with("B").method("m").use(UnitMaker.NEW, "B").use(UnitMaker.CAST, "B")
                .use(UnitMaker.TEST, "B").use(UnitMaker.CONST, "B").call("B", "m").loadInto(x);
        new UnitMaker("B").method("m").loadInto(x);
        for (int i = 0; i < 6; i++) {
            check.due("target(0, " + i + ")", x.target(0, i), -1);
        }
        check.due("target(0, 6)", x.target(0, 6), 1);
    }

    private static void fields() {
        PackageRules x = user();
        check.due("C not loaded", x.target(0, 0), -1);
        new UnitMaker("C").method("w").loadInto(x);
        check.due("a method is no field", x.target(0, 0), -1);
        new UnitMaker("C").field("W").field("w").loadInto(x);
        check.due("GET of C's own", x.target(0, 0), 1);
        check.due("SET of C's own", x.target(0, 2), 1);
        check.due("a field is no method", x.target(0, 1), -1);
        new UnitMaker("C").extending("S").with("I").loadInto(x);
        check.due("nothing in C", x.target(0, 0), -1);
        new UnitMaker("S").field("w").loadInto(x);
        check.due("in SUPER", x.target(0, 0), 2);
        new UnitMaker("I").field("w").loadInto(x);
        check.due("in the interface first", x.target(0, 0), 3);
        new UnitMaker("I").extending("T").loadInto(x);
        check.due("T not loaded", x.target(0, 0), 2);
        new UnitMaker("T").field("w").loadInto(x);
        check.due("in SUPER of the interface first", x.target(0, 0), 4);
        check.due("SET there too", x.target(0, 2), 4);
    }

    private static void fieldOrder() {
        PackageRules x = user();
        new UnitMaker("C").extending("S").with("I", "J").loadInto(x);
        new UnitMaker("J").field("w").loadInto(x);
        new UnitMaker("S").with("L").loadInto(x);
        new UnitMaker("L").field("w").loadInto(x);
        check.due("in J, before SUPER", x.target(0, 0), 2);
        new UnitMaker("I").with("K").loadInto(x);
        new UnitMaker("K").field("w").loadInto(x);
        check.due("in I's interface, before J", x.target(0, 0), 6);
        new UnitMaker("C").extending("S").loadInto(x);
        check.due("in SUPER's interface", x.target(0, 0), 4);
        new UnitMaker("S").with("L").extending("J").loadInto(x);
        check.due("in SUPER's interface before its SUPER", x.target(0, 0), 4);
        new UnitMaker("S").with("L").field("w").loadInto(x);
        check.due("in SUPER itself", x.target(0, 0), 3);
    }

    private static void methods() {
        PackageRules x = user();
        new UnitMaker("C").field("w").extending("S").with("I").loadInto(x);
        check.due("nothing there", x.target(0, 1), -1);
        new UnitMaker("I").method("w").loadInto(x);
        check.due("in the interface", x.target(0, 1), 2);
        new UnitMaker("S").extending("T").loadInto(x);
        new UnitMaker("T").method("v").method("w").loadInto(x);
        check.due("in SUPER's SUPER, before the interface", x.target(0, 1), 4);
        new UnitMaker("S").extending("T").method("w").loadInto(x);
        check.due("in SUPER", x.target(0, 1), 3);
        new UnitMaker("C").method("w").extending("S").with("I").loadInto(x);
        check.due("in C", x.target(0, 1), 1);
    }

    private static void methodOrder() {
        PackageRules x = user();
        new UnitMaker("C").extending("S").with("I", "J").loadInto(x);
        new UnitMaker("I").extending("T").with("K").loadInto(x);
        new UnitMaker("T").method("w").loadInto(x);
        check.due("FACE has no SUPER", x.target(0, 1), -1);
        new UnitMaker("S").with("L").loadInto(x);
        new UnitMaker("L").method("w").loadInto(x);
        check.due("in SUPER's interface", x.target(0, 1), 5);
        new UnitMaker("J").method("w").loadInto(x);
        check.due("in the own interface before SUPER's", x.target(0, 1), 6);
        new UnitMaker("K").method("w").loadInto(x);
        check.due("in I's interface before J", x.target(0, 1), 7);
        new UnitMaker("I").method("w").with("K").loadInto(x);
        check.due("in I", x.target(0, 1), 2);
        new UnitMaker("J").loadInto(x);
        new UnitMaker("C").extending("S").with("J").loadInto(x);
        check.due("in SUPER's interface, nothing in J", x.target(0, 1), 5);
        new UnitMaker("S").loadInto(x);
        check.due("nothing any more", x.target(0, 1), -1);
    }

    private static void circles() {
        PackageRules x = new PackageRules();
        new UnitMaker("A").extending("A").field("f").method("m").get("A", "f").call("A", "m").get("B", "f").loadInto(x);
        check.due("its own SUPER", x.circular(0), true);
        check.due("target in a circular class", x.target(0, 1), -1);
        check.due("target of a call in a circular class", x.target(0, 2), -1);
        new UnitMaker("B").field("f").with("C").loadInto(x);
        check.due("B", x.circular(1), false);
        check.due("target in another class", x.target(0, 3), 1);
        new UnitMaker("C").with("D", "A").loadInto(x);
        check.due("C is below A", x.circular(2), true);
        check.due("B is below C", x.circular(1), true);
        check.due("target in a class below", x.target(0, 3), -1);
        new UnitMaker("A").loadInto(x);
        check.due("A", x.circular(0), false);
        check.due("B again", x.circular(1), false);
        new UnitMaker("D").with("B").loadInto(x);
        check.due("A is not in the circle", x.circular(0), false);
        for (int c = 1; c <= 3; c++) {
            check.due("in the circle: " + c, x.circular(c), true);
        }
        new UnitMaker("E").with("A").extending("Z").loadInto(x);
        check.due("E", x.circular(4), false);
        // Other occurrences than SUPER and INTERFACES make no parents.
        new UnitMaker("F").method("m").use(UnitMaker.NEW, "F").call("F", "m").loadInto(x);
        check.due("F", x.circular(5), false);
        check.due("target(5, 1)", x.target(5, 1), 5);
        for (int wrong : new int[] {-1, 6, 31, 32, 33, Integer.MAX_VALUE, Integer.MIN_VALUE}) {
            check.due("circular(" + wrong + ")", x.circular(wrong), false);
        }
    }

    /** Twelve classes, each with all four parents the next one: over four million ways to the end. */
    private static void manyWays() {
        PackageRules x = new PackageRules();
        for (int i = 0; i < 12; i++) {
            String next = i == 11 ? "Z" : "c." + (char) ('b' + i);
            new UnitMaker("c." + (char) ('a' + i)).extending(next).with(next, next, next)
                    .method("m").get("c.a", "w").call("c.a", "w").loadInto(x);
        }
        check.due("target of a field", x.target(0, 4), -1);
        check.due("target of a method", x.target(11, 5), -1);
        check.due("circular(0)", x.circular(0), false);
        new UnitMaker("c.l").field("w").loadInto(x);
        check.due("target in the last", x.target(0, 4), 11);
        check.due("no method", x.target(0, 5), -1);
        new UnitMaker("c.l").method("w").loadInto(x);
        check.due("method in the last", x.target(0, 5), 11);
        check.due("no field", x.target(0, 4), -1);
    }

    /** The last of three interfaces, four fields and four methods counts as the first does. */
    private static void lastRows() {
        PackageRules x = user();
        new UnitMaker("C").with("Y", "Z", "I").loadInto(x);
        new UnitMaker("I").field("a").field("b").field("c").field("w").method("a").method("b").method("c").method("w")
                .loadInto(x);
        check.due("the fourth field of the third interface", x.target(0, 0), 2);
        check.due("the fourth method of the third interface", x.target(0, 1), 2);
        new UnitMaker("I").with("Y", "Z", "I").loadInto(x);
        check.due("a circle over the third interface", x.circular(2), true);
    }

    private static void longChain() {
        PackageRules x = new PackageRules();
        for (int i = 0; i < 11; i++) {
            new UnitMaker("" + (char) ('a' + i)).extending("" + (char) ('b' + i))
                    .method("m").get("a", "w").call("a", "w").loadInto(x);
        }
        new UnitMaker("l").field("w").method("w").loadInto(x);
        check.due("a field in the twelfth", x.target(0, 1), 11);
        check.due("a method in the twelfth", x.target(0, 2), 11);

        PackageRules y = new PackageRules();
        for (int i = 0; i < 11; i++) {
            new UnitMaker("" + (char) ('a' + i)).with("" + (char) ('b' + i))
                    .method("m").get("a", "w").call("a", "w").loadInto(y);
        }
        new UnitMaker("l").field("w").method("w").loadInto(y);
        check.due("a field in the twelfth, over interfaces", y.target(0, 1), 11);
        check.due("a method in the twelfth, over interfaces", y.target(0, 2), 11);
    }

    /** Nothing of a unit that was there before, or was faulty, is left in one that is read later. */
    private static void staleUnits() {
        PackageRules x = user();
        new UnitMaker("S").field("w").method("w").loadInto(x);
        UnitMaker rich = new UnitMaker("C").extending("S").with("S", "S", "S").field("w").method("w");
        rich.loadInto(x);
        for (int i = 0; i < 3; i++) {
            new UnitMaker("C").loadInto(x);
            check.due("the field is gone", x.target(0, 0), -1);
            check.due("the method is gone", x.target(0, 1), -1);
            int[] faulty = rich.bytes();
            faulty[faulty.length - 1] = 1;
            check.due("a faulty unit", UnitMaker.load(x, faulty), -1 - faulty.length);
            check.due("the field is still gone", x.target(0, 0), -1);
        }
    }

    private static void wrongNumbers() {
        PackageRules x = new PackageRules();
        new UnitMaker("A").method("m").call("A", "m").loadInto(x);
        check.due("target(0, 0)", x.target(0, 0), 0);
        for (int wrong : new int[] {-1, 1, 12, 52, 64, Integer.MAX_VALUE, Integer.MIN_VALUE}) {
            check.due("target(" + wrong + ", 0)", x.target(wrong, 0), -1);
            check.due("target(0, " + wrong + ")", x.target(0, wrong), -1);
        }
    }
}
