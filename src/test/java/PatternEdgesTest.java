import java.util.ArrayList;
import java.util.List;

/** The boundaries of promises 5, 6 and 19, and of the terms on patterns. */
final class PatternEdgesTest {
    private static final Check check = new Check();
    private static final String GOOD = "abcdefghijklmnopqrstuvwxyzABCDEFGHIJKLMNOPQRSTUVWXYZ.*#";

    public static void main(String[] args) {
        characters();
        refusedCharacters();
        elevenCharacters();
        nothingTyped();
        sixPatterns();
        numbersInOrder();
        allSmallPatterns();
        anyNumberAlsoNone();
        wholeName();
        longest();
        numbers();
        check.end();
    }

    private static void type(PackageRules x, String text) {
        for (char c : text.toCharArray()) {
            check.due("type(" + c + ")", x.type(c), true);
        }
    }

    private static void characters() {
        check.sentence("false if c is no letter, point, * or #");
        PackageRules x = new PackageRules();
        for (int c = 0; c < 65536; c++) {
            if (c % 250 == 0) {
                x = new PackageRules();
            }
            boolean good = c < 128 && GOOD.indexOf(c) >= 0;
            check.due("type(" + c + ")", x.type((char) c), good);
            if (good) {
                check.due("pattern() behind " + c, x.pattern() >= 0, true);
                x = new PackageRules();
            }
        }
    }

    private static void refusedCharacters() {
        check.sentence("false if c is no letter, point, * or #");
        char[] wrong = {0, ' ', '\n', '"', '$', ')', '+', ',', '-', '/', '0', '9', '@', '[', '_', '`', '{', '|', 127, 163, 170,
            181, 223, 255, 256 + 'a', 0x2A00, 0xFF0A, 0xFFFF};
        PackageRules x = new PackageRules();
        for (char c : wrong) {
            check.due("type(" + (int) c + ") first", x.type(c), false);
        }
        check.due("pattern() of nothing", x.pattern(), -1);
        x.type('A');
        for (char c : wrong) {
            check.due("type(" + (int) c + ") behind A", x.type(c), false);
        }
        check.due("pattern() of A", x.pattern(), 0);
        new UnitMaker("A").loadInto(x);
        check.due("it is A alone", x.fits(0, 0), true);
    }

    private static void elevenCharacters() {
        check.sentence("Appends a character to the pattern that is being typed; false if c is no letter, point, * or #,"
                + " or 10 are there.");
        for (char c : GOOD.toCharArray()) {
            PackageRules x = new PackageRules();
            type(x, "abcdefghij");
            check.due("an eleventh " + c, x.type(c), false);
            check.due("an eleventh " + c + " again", x.type(c), false);
            check.due("pattern()", x.pattern(), 0);
            check.due("type behind it", x.type(c), true);
            new UnitMaker("abcdefghij").loadInto(x);
            check.due("the ten are what was typed", x.fits(0, 0), true);
        }
        for (int there = 0; there <= 12; there++) {
            PackageRules x = new PackageRules();
            for (int i = 0; i < there; i++) {
                check.due("character " + i, x.type('.'), i < 10);
            }
            check.due("pattern() of " + there, x.pattern(), there == 0 ? -1 : 0);
        }
    }

    private static void nothingTyped() {
        check.sentence("-1 if nothing is typed");
        PackageRules x = new PackageRules();
        check.due("pattern() at first", x.pattern(), -1);
        check.due("type", x.type('a'), true);
        check.due("pattern() of one character", x.pattern(), 0);
        check.sentence("What was typed becomes a new pattern, and nothing is typed any more.");
        check.due("pattern() at once again", x.pattern(), -1);
        check.due("type('b')", x.type('b'), true);
        check.due("the next pattern", x.pattern(), 1);
        new UnitMaker("b").loadInto(x);
        check.due("the next one is b alone", x.fits(1, 0), true);
        for (int i = 0; i < 10; i++) {
            check.due("ten can be typed again", x.type('c'), true);
        }
    }

    private static void sixPatterns() {
        check.sentence("or there are 6 patterns (what was typed stays then).");
        PackageRules x = new PackageRules();
        for (int p = 0; p < 6; p++) {
            check.due("pattern " + p, UnitMaker.pattern(x, "a"), p);
        }
        check.due("a seventh, nothing typed", x.pattern(), -1);
        for (int i = 0; i < 10; i++) {
            check.due("type", x.type('b'), true);
            check.due("a seventh", x.pattern(), -1);
        }
        check.due("all ten have stayed", x.type('b'), false);
        new UnitMaker("a").loadInto(x);
        for (int p = 0; p < 6; p++) {
            check.due("fits(" + p + ", 0)", x.fits(p, 0), true);
        }
        check.due("fits(6, 0)", x.fits(6, 0), false);
        check.due("rule(0, 5, 5)", x.rule(0, 5, 5), 0);
        check.due("rule(0, 6, 0)", x.rule(0, 6, 0), -1);
        check.due("rule(0, 0, 6)", x.rule(0, 0, 6), -1);
    }

    private static void numbersInOrder() {
        check.sentence("Answers its number (0, 1, ..);");
        PackageRules x = new PackageRules();
        String[] texts = {"a", "b", "a", "*", "b.#", "#"};
        for (int p = 0; p < 6; p++) {
            check.due("pattern " + texts[p], UnitMaker.pattern(x, texts[p]), p);
        }
        new UnitMaker("b").loadInto(x);
        boolean[] fits = {false, true, false, true, false, true};
        for (int p = 0; p < 6; p++) {
            check.due("fits(" + p + ", 0)", x.fits(p, 0), fits[p]);
        }
    }

    private static List<String> texts(String characters, int most) {
        List<String> all = new ArrayList<>(List.of(""));
        int from = 0;
        for (int length = 1; length <= most; length++) {
            int to = all.size();
            for (int i = from; i < to; i++) {
                for (char c : characters.toCharArray()) {
                    all.add(all.get(i) + c);
                }
            }
            from = to;
        }
        return all.subList(1, all.size());
    }

    private static boolean fits(String pattern, String name) {
        StringBuilder regex = new StringBuilder();
        for (char c : pattern.toCharArray()) {
            regex.append(c == '.' ? "[.]" : c == '*' ? "[a-zA-Z]*" : c == '#' ? "[a-zA-Z.]*" : String.valueOf(c));
        }
        return name.matches(regex.toString());
    }

    /** All patterns of at most four characters, each over twelve names. */
    private static void allSmallPatterns() {
        check.sentence("A pattern FITS a name if the whole name is so.");
        String[][] names = {
            {"a", "b", "aa", "ab", "ba", "aaa", "aba", "a.a", "a.b", "b.a", "aa.a", "a.aa"},
            {"bab", "a.a.a", "aa.b", "b.aa", "a.b.a", "b.b", "aaaa", "A", "a.A", "aab.a", "a.a.a.a.a", "aaaaaaaaaa"}
        };
        List<String> patterns = texts("a.*#", 4);
        for (int from = 0; from < patterns.size(); from += 6) {
            for (String[] row : names) {
                fitAll(patterns.subList(from, Math.min(from + 6, patterns.size())), row);
            }
        }
    }

    private static void fitAll(List<String> patterns, String... names) {
        PackageRules x = new PackageRules();
        for (String pattern : patterns) {
            UnitMaker.pattern(x, pattern);
        }
        for (String name : names) {
            new UnitMaker(name).loadInto(x);
        }
        for (int p = 0; p < patterns.size(); p++) {
            for (int c = 0; c < names.length; c++) {
                check.due(patterns.get(p) + " fits " + names[c], x.fits(p, c), fits(patterns.get(p), names[c]));
            }
        }
    }

    private static void anyNumberAlsoNone() {
        check.sentence("* (any number, also 0, of letters), # (any number, also 0, of letters and points).");
        fitAll(List.of("*a", "a*", "**a**", "a***", "*", "**********"), "a", "ba", "ab", "b", "a.a", "azAZmMnNoO");
        fitAll(List.of("#a", "a#", "##a##", "a###", "#", "##########"), "a", "ba", "ab", "b", "a.a", "a.b.c.d.e", "azAZmMnNoO");
        fitAll(List.of("*.*", "#.#", "*#", "#*", "*.#", "#.*"), "a", "a.b", "a.b.c", "ab.cd", "a.b.c.d.e");
        fitAll(List.of("a.*.b", "a.#.b", "a.*b", "a.#b", "a*.b", "a#.b"), "a.b", "a.c.b", "a.c.d.b", "a.bb", "aa.b", "ab");
    }

    private static void wholeName() {
        check.sentence("A pattern FITS a name if the whole name is so.");
        fitAll(List.of("b", "a.b", "b.c", "a.b.c", ".", "a."), "a.b.c", "a.b", "b.c", "b", "a", "bb");
        fitAll(List.of("*b", "b*", "#b", "b#", "*b*", "#b#"), "a.b.c", "abc", "b.c", "a.b", "b", "bb", "aabb.c");
        fitAll(List.of("aB", "Ab", "AB", "ab", "a*B", "A#b"), "aB", "Ab", "AB", "ab", "axB", "A.b");
    }

    private static void longest() {
        check.sentence("PATTERNS, at most 6, are texts of 1 .. 10 characters");
        fitAll(List.of("abcdefghij", "*bcdefghi*", "#c#e#g#i#j", "a.c.e.g.ij", "*.*.*.*.**", "**********"),
                "abcdefghij", "abcdefghik", "bbcdefghij", "a.c.e.g.ij", "a.c.e.g.ik", "abcdefghi", "bcdefghi");
        fitAll(List.of("*a*a*a*a*b", "#a#a#a#a#b", "a*a*a*a*a*", "a", "#########.", "*********j"),
                "aaaaaaaaaa", "aaaaaaaaab", "a.a.a.a.b", "aaaab", "aaab", "a", "aaaaaaaaaj");
    }

    private static void numbers() {
        check.sentence("Whether pattern p fits the name of class c; false if one does not exist.");
        PackageRules x = new PackageRules();
        check.due("neither", x.fits(0, 0), false);
        new UnitMaker("A").loadInto(x);
        check.due("no pattern", x.fits(0, 0), false);
        x.type('#');
        check.due("what is typed is none", x.fits(0, 0), false);
        x.pattern();
        check.due("both", x.fits(0, 0), true);
        for (int wrong : Ints.noNumberOf(1)) {
            check.due("fits(" + wrong + ", 0)", x.fits(wrong, 0), false);
            check.due("fits(0, " + wrong + ")", x.fits(0, wrong), false);
            check.due("fits(" + wrong + ", " + wrong + ")", x.fits(wrong, wrong), false);
        }
        PackageRules y = new PackageRules();
        UnitMaker.pattern(y, "#");
        for (int wrong : Ints.noNumberOf(0)) {
            check.due("no class: fits(0, " + wrong + ")", y.fits(0, wrong), false);
        }
        PackageRules z = new PackageRules();
        for (int i = 0; i < 12; i++) {
            new UnitMaker("" + (char) ('a' + i)).loadInto(z);
        }
        for (int p = 0; p < 6; p++) {
            UnitMaker.pattern(z, "#");
        }
        check.due("fits(5, 11)", z.fits(5, 11), true);
        for (int wrong : Ints.noNumberOf(12)) {
            check.due("full: fits(5, " + wrong + ")", z.fits(5, wrong), false);
        }
        for (int wrong : Ints.noNumberOf(6)) {
            check.due("full: fits(" + wrong + ", 11)", z.fits(wrong, 11), false);
        }
    }
}
