/** The example of README.md answers what README.md says. */
final class UseTest {
    public static void main(String[] args) {
        Check check = new Check();
        PackageRules x = new PackageRules();
        int[] words = {0xC5040103, 0x612E4207, 0x01010362, 0x2E430703, 0x02040000};
        for (int word : words) {
            check.due("put", x.put(word, 4), true);
        }
        check.due("put", x.put(0x00, 1), true);
        check.due("load()", x.load(), 0);
        check.due("a.#", UnitMaker.pattern(x, "a.#"), 0);
        check.due("b.#", UnitMaker.pattern(x, "b.#"), 1);
        check.due("rule(0, 0, 1)", x.rule(0, 0, 1), 0);
        check.due("violations(0)", x.violations(0), 1);
        check.due("violation(0, 0)", x.violation(0, 0), 0);
        check.due("freeze(0)", x.freeze(0), 1);
        check.due("violations(0)", x.violations(0), 0);
        check.end();
    }
}
