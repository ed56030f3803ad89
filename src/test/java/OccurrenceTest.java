/** Promises 13, 14, 15 and 16. */
final class OccurrenceTest {
    private static final Check check = new Check();

    public static void main(String[] args) {
        kindsAndLines();
        wides();
        naming();
        most();
        wrongNumbers();
        check.end();
    }

    private static void row(PackageRules x, int c, int i, int kind, int line) {
        check.due("kind(" + c + ", " + i + ")", x.kind(c, i), kind);
        check.due("line(" + c + ", " + i + ")", x.line(c, i), line);
    }

    private static void kindsAndLines() {
        PackageRules x = new PackageRules();
        UnitMaker maker = new UnitMaker("A").extending("B").with("C", "B")
                .method("m", 250).raw(16, 25).get("B", "f").step(3).set("B", "f").step(255).call("B", "m")
                .raw(170, 0, 0, 0, 0)
                .method("n", 7).use(UnitMaker.NEW, "C").use(UnitMaker.CAST, "C").step(0).use(UnitMaker.TEST, "C")
                .use(UnitMaker.CONST, "C").step(1);
        maker.raw(UnitMaker.CONST, maker.textNumber("C")).use(UnitMaker.CONST, "A");
        check.due("load()", maker.loadInto(x), 0);
        check.due("occurrences(0)", x.occurrences(0), 11);
        row(x, 0, 0, 7, 0);
        row(x, 0, 1, 8, 0);
        row(x, 0, 2, 8, 0);
        row(x, 0, 3, 0, 250);
        row(x, 0, 4, 1, 253);
        row(x, 0, 5, 2, 508);
        row(x, 0, 6, 3, 7);
        row(x, 0, 7, 4, 7);
        row(x, 0, 8, 5, 7);
        row(x, 0, 9, 6, 7);
        row(x, 0, 10, 6, 8);
        row(x, 0, 11, -1, -1);

        new UnitMaker("C").with("A").loadInto(x);
        check.due("occurrences(1)", x.occurrences(1), 1);
        row(x, 1, 0, 8, 0);
        new UnitMaker("B").field("f").method("m").loadInto(x);
        check.due("occurrences(2)", x.occurrences(2), 0);
        row(x, 2, 0, -1, -1);
    }

    private static void wides() {
        PackageRules x = new PackageRules();
        UnitMaker maker = new UnitMaker("A");
        int field = maker.memberNumber(9, "B", "f");
        int method = maker.memberNumber(10, "C", "f");
        maker.method("m", 4).raw(196, 180, 0, field).step(9).raw(196, 181, 0, field, 196, 182, 0, method)
                .raw(196, 187, 0, maker.classNumber("A"));
        check.due("load()", maker.loadInto(x), 0);
        check.due("occurrences(0)", x.occurrences(0), 4);
        row(x, 0, 0, 0, 4);
        row(x, 0, 1, 1, 13);
        row(x, 0, 2, 2, 13);
        row(x, 0, 3, 3, 13);
        check.due("named(0, 0)", x.named(0, 0), -1);
        new UnitMaker("C").loadInto(x);
        new UnitMaker("B").loadInto(x);
        check.due("named(0, 0)", x.named(0, 0), 2);
        check.due("named(0, 1)", x.named(0, 1), 2);
        check.due("named(0, 2)", x.named(0, 2), 1);
        check.due("named(0, 3)", x.named(0, 3), 0);
    }

    private static void naming() {
        PackageRules x = new PackageRules();
        new UnitMaker("a.B").extending("b.C").with("a.B", "c.D").method("m").call("b.C", "q").use(UnitMaker.CONST, "c.D")
                .loadInto(x);
        int[] before = {-1, 0, -1, -1, -1};
        int[] after = {2, 0, 1, 2, 1};
        for (int i = 0; i < 5; i++) {
            check.due("named(0, " + i + ") before", x.named(0, i), before[i]);
        }
        new UnitMaker("c.D").loadInto(x);
        new UnitMaker("b.C").loadInto(x);
        for (int i = 0; i < 5; i++) {
            check.due("named(0, " + i + ") after", x.named(0, i), after[i]);
        }
    }

    /** As many occurrences as there can be: all numbers are looked at up to the last. */
    private static void most() {
        PackageRules x = new PackageRules();
        UnitMaker maker = new UnitMaker("A").extending("A").with("A", "A", "A");
        for (int m = 0; m < 4; m++) {
            maker.method("A", m);
            for (int i = 0; i < 11; i++) {
                maker.use(UnitMaker.NEW, "A");
            }
        }
        check.due("load()", maker.loadInto(x), 0);
        check.due("occurrences(0)", x.occurrences(0), 48);
        row(x, 0, 47, 3, 3);
        check.due("named(0, 47)", x.named(0, 47), 0);
        row(x, 0, 48, -1, -1);
    }

    private static void wrongNumbers() {
        PackageRules x = new PackageRules();
        new UnitMaker("A").extending("A").loadInto(x);
        for (int wrong : new int[] {-1, 1, 12, 52, 64, Integer.MAX_VALUE, Integer.MIN_VALUE}) {
            check.due("occurrences(" + wrong + ")", x.occurrences(wrong), -1);
            row(x, wrong, 0, -1, -1);
            row(x, 0, wrong, -1, -1);
            check.due("named(" + wrong + ", 0)", x.named(wrong, 0), -1);
            check.due("named(0, " + wrong + ")", x.named(0, wrong), -1);
        }
    }
}
