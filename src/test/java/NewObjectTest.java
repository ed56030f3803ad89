/** Promise 1. */
final class NewObjectTest {
    public static void main(String[] args) {
        Check check = new Check();
        PackageRules x = new PackageRules();
        check.due("bytes()", x.bytes(), 0);
        check.due("classes()", x.classes(), 0);
        check.due("slices(1)", x.slices(1), 0);
        check.due("slices(2)", x.slices(2), 0);
        check.due("name(0, 0)", x.name(0, 0), -1);
        check.due("occurrences(0)", x.occurrences(0), -1);
        check.due("kind(0, 0)", x.kind(0, 0), -1);
        check.due("line(0, 0)", x.line(0, 0), -1);
        check.due("named(0, 0)", x.named(0, 0), -1);
        check.due("target(0, 0)", x.target(0, 0), -1);
        check.due("circular(0)", x.circular(0), false);
        check.due("fits(0, 0)", x.fits(0, 0), false);
        check.due("pattern()", x.pattern(), -1);
        check.due("rule(0, 0, 0)", x.rule(0, 0, 0), -1);
        check.due("violations(0)", x.violations(0), -1);
        check.due("violation(0, 0)", x.violation(0, 0), -1);
        check.due("freeze(0)", x.freeze(0), -1);
        check.due("load()", x.load(), -1);
        check.due("rule(3, 1, 0)", x.rule(3, 1, 0), 0);
        check.due("violations(0) without a class", x.violations(0), 0);

        PackageRules y = new PackageRules();
        UnitMaker.load(x, new UnitMaker("A").bytes());
        UnitMaker.pattern(x, "#");
        x.put(1, 1);
        check.due("classes() of another object", y.classes(), 0);
        check.due("bytes() of another object", y.bytes(), 0);
        check.due("rule(0, 0, 0) of another object", y.rule(0, 0, 0), -1);
        check.end();
    }
}
