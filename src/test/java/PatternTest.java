/** Promises 5, 6 and 19. */
final class PatternTest {
    private static final Check check = new Check();

    public static void main(String[] args) {
        characters();
        typing();
        fitting();
        wrongNumbers();
        check.end();
    }

    private static void characters() {
        for (int c = 0; c < 65536; c++) {
            boolean good = c >= 'a' && c <= 'z' || c >= 'A' && c <= 'Z' || c == '.' || c == '*' || c == '#';
            if (good || c < 512 || c % 251 == 0) {
                PackageRules x = new PackageRules();
                check.due("type(" + c + ")", x.type((char) c), good);
                check.due("pattern() after " + c, x.pattern(), good ? 0 : -1);
            }
        }
    }

    private static void typing() {
        PackageRules x = new PackageRules();
        check.due("pattern() of nothing", x.pattern(), -1);
        for (int i = 0; i < 10; i++) {
            check.due("type", x.type('#'), true);
        }
        check.due("an eleventh", x.type('#'), false);
        check.due("an eleventh letter", x.type('a'), false);
        check.due("pattern()", x.pattern(), 0);
        check.due("pattern() at once again", x.pattern(), -1);
        for (int i = 1; i < 5; i++) {
            check.due("pattern", UnitMaker.pattern(x, "a"), i);
        }
        x.type('Q');
        check.due("a refused character", x.type('?'), false);
        x.type('.');
        check.due("the sixth", x.pattern(), 5);
        for (int i = 0; i < 9; i++) {
            x.type('x');
        }
        check.due("a seventh", x.pattern(), -1);
        check.due("what was typed stays: a tenth", x.type('x'), true);
        check.due("what was typed stays: an eleventh", x.type('x'), false);
        check.due("a seventh again", x.pattern(), -1);
    }

    private static void fit(String pattern, String name, boolean want) {
        PackageRules x = new PackageRules();
        UnitMaker.pattern(x, pattern);
        new UnitMaker(name).loadInto(x);
        check.due(pattern + " fits " + name, x.fits(0, 0), want);
    }

    private static void fitting() {
        fit("a", "a", true);
        fit("a", "A", false);
        fit("a", "b", false);
        fit("a", "aa", false);
        fit("aa", "a", false);
        fit("a.b", "a.b", true);
        fit("a.b", "aXb", false);
        fit(".", "a", false);
        fit("a.", "a", false);
        fit("*", "abc", true);
        fit("*", "a.b", false);
        fit("*.*", "a.b", true);
        fit("*.*", "a.b.c", false);
        fit("*.*", "ab", false);
        fit("#", "a.b.c", true);
        fit("#.#", "a.b.c", true);
        fit("#.#", "abc", false);
        fit("a*", "a", true);
        fit("a*", "abc", true);
        fit("a*", "a.b", false);
        fit("a#", "a", true);
        fit("a#", "a.b", true);
        fit("*a", "bca", true);
        fit("*a", "bcab", false);
        fit("*a*", "bcab", true);
        fit("*a*", "bcb", false);
        fit("a#b", "ab", true);
        fit("a#b", "a.x.b", true);
        fit("a#b", "a.x.bc", false);
        fit("a*b", "axxbxxb", true);
        fit("a*b*c", "abbcbc", true);
        fit("a.#.b", "a.b", false);
        fit("a.#.b", "a.c.b", true);
        fit("**", "a", true);
        fit("*#*", "a.b.c", true);
        fit("##########", "a.b.c.d.e", true);
        fit("*a*a*a*a*b", "aaaaaaaaaa", false);
        fit("*a*a*a*a*b", "aaaaaaaaab", true);
        fit("abcdefghij", "abcdefghij", true);
        fit("abcdefghij", "abcdefghik", false);
        fit("zZ*aA", "zZaA", true);
    }

    private static void wrongNumbers() {
        PackageRules x = new PackageRules();
        check.due("nothing there", x.fits(0, 0), false);
        UnitMaker.pattern(x, "#");
        check.due("no class there", x.fits(0, 0), false);
        new UnitMaker("A").loadInto(x);
        check.due("both there", x.fits(0, 0), true);
        for (int wrong : new int[] {-1, 1, 6, 12, Integer.MAX_VALUE, Integer.MIN_VALUE}) {
            check.due("fits(" + wrong + ", 0)", x.fits(wrong, 0), false);
            check.due("fits(0, " + wrong + ")", x.fits(0, wrong), false);
        }
        x.type('#');
        check.due("typed is no pattern", x.fits(1, 0), false);
    }
}
