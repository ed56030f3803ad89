/** The boundaries of promises 1, 2 and 3: a new object, put and bytes. */
final class BufferEdgesTest {
    private static final Check check = new Check();

    public static void main(String[] args) {
        newObject();
        firstNumbers();
        ownObjects();
        lowestBytes();
        howManyBytes();
        tooManyBytes();
        refusedBytes();
        numberOfBytes();
        check.end();
    }

    private static void newObject() {
        check.sentence("An empty buffer, no class, pattern or rule.");
        PackageRules x = new PackageRules();
        check.due("bytes()", x.bytes(), 0);
        check.due("classes()", x.classes(), 0);
        check.due("slices(1)", x.slices(1), 0);
        check.due("slices(2)", x.slices(2), 0);
        for (int c : Ints.noNumberOf(0)) {
            check.due("name(" + c + ", 0)", x.name(c, 0), -1);
            check.due("occurrences(" + c + ")", x.occurrences(c), -1);
            check.due("circular(" + c + ")", x.circular(c), false);
        }
        for (int r : Ints.noNumberOf(0)) {
            check.due("violations(" + r + ")", x.violations(r), -1);
            check.due("freeze(" + r + ")", x.freeze(r), -1);
        }
        check.due("kind(0, 0)", x.kind(0, 0), -1);
        check.due("line(0, 0)", x.line(0, 0), -1);
        check.due("named(0, 0)", x.named(0, 0), -1);
        check.due("target(0, 0)", x.target(0, 0), -1);
        check.due("fits(0, 0)", x.fits(0, 0), false);
        check.due("violation(0, 0)", x.violation(0, 0), -1);
        check.due("pattern()", x.pattern(), -1);
        for (int kind = 0; kind <= 2; kind++) {
            check.due("rule(" + kind + ", 0, 0)", x.rule(kind, 0, 0), -1);
        }
        check.due("load()", x.load(), -1);
    }

    private static void firstNumbers() {
        check.sentence("An empty buffer, no class, pattern or rule.");
        PackageRules x = new PackageRules();
        check.due("the first rule", x.rule(3, 1, 0), 0);
        check.due("the first pattern", UnitMaker.pattern(x, "a"), 0);
        check.due("the first class", new UnitMaker("a").loadInto(x), 0);
    }

    private static void ownObjects() {
        check.sentence("An empty buffer, no class, pattern or rule.");
        PackageRules x = new PackageRules();
        new UnitMaker("a.A").loadInto(x);
        UnitMaker.pattern(x, "#");
        x.rule(0, 0, 0);
        x.put(7, 3);
        x.type('a');
        PackageRules y = new PackageRules();
        check.due("bytes() beside another object", y.bytes(), 0);
        check.due("classes() beside another object", y.classes(), 0);
        check.due("pattern() beside another object", y.pattern(), -1);
        check.due("rule(0, 0, 0) beside another object", y.rule(0, 0, 0), -1);
        check.due("violations(0) beside another object", y.violations(0), -1);
        new UnitMaker("b.B").loadInto(y);
        check.due("bytes() of the first", x.bytes(), 3);
        check.due("name(0, 0) of the first", x.name(0, 0), 'a');
        check.due("name(0, 0) of the second", y.name(0, 0), 'b');
    }

    /** What is read tells the bytes' order; what stands above the n lowest bytes must not matter. */
    private static void lowestBytes() {
        check.sentence("Puts the n lowest bytes of word behind those of the buffer, the highest of them first");
        int[] unit = new UnitMaker("Qz.bY.x").method("m", 255).use(UnitMaker.NEW, "Qz.bY.x").bytes();
        for (int above : new int[] {0, -1, 0x55AA33CC, 0x80808080, 0x7F7F7F7F}) {
            for (int n = 1; n <= 4; n++) {
                PackageRules x = new PackageRules();
                for (int at = 0; at < unit.length; at += n) {
                    int piece = Math.min(n, unit.length - at);
                    int word = above;
                    for (int i = 0; i < piece; i++) {
                        word = word << 8 | unit[at + i];
                    }
                    check.due("put(" + word + ", " + piece + ")", x.put(word, piece), true);
                    check.due("bytes()", x.bytes(), at + piece);
                }
                check.due("load()", x.load(), 0);
                check.due("name(0, 0)", x.name(0, 0), 'Q');
                check.due("name(0, 6)", x.name(0, 6), 'x');
                check.due("line(0, 0)", x.line(0, 0), 255);
            }
        }
        // 197, 2 | 1, 1, 'A', 7 | 1, 1 or less of what must not be there.
        PackageRules y = new PackageRules();
        check.due("put(-59, 1)", y.put(-59, 1), true);
        check.due("put(MIN_VALUE + 2, 1)", y.put(Integer.MIN_VALUE + 2, 1), true);
        check.due("put of 4", y.put(0x01014107, 4), true);
        check.due("put(-1, 1)", y.put(-1, 1), true);
        check.due("bytes()", y.bytes(), 7);
        check.due("load(): 255 is at fault", y.load(), -7);
    }

    private static void howManyBytes() {
        check.sentence("false if n is not 1 .. 4");
        for (int there : new int[] {0, 1, 60, 116, 119, 120}) {
            PackageRules x = new PackageRules();
            for (int i = 0; i < there; i++) {
                x.put(i, 1);
            }
            for (int n : Ints.outside(1, 4)) {
                check.due("put(1, " + n + ") to " + there, x.put(1, n), false);
                check.due("bytes() behind it", x.bytes(), there);
            }
        }
        for (int n = 1; n <= 4; n++) {
            PackageRules x = new PackageRules();
            check.due("put(-1, " + n + ")", x.put(-1, n), true);
            check.due("bytes() behind it", x.bytes(), n);
        }
    }

    private static void tooManyBytes() {
        check.sentence("or more than 120 would be there.");
        for (int there = 112; there <= 120; there++) {
            for (int n = 1; n <= 4; n++) {
                PackageRules x = new PackageRules();
                for (int i = 0; i < there; i++) {
                    x.put(0, 1);
                }
                boolean room = there + n <= 120;
                check.due("put(0, " + n + ") to " + there, x.put(0, n), room);
                check.due("bytes() behind it", x.bytes(), room ? there + n : there);
            }
        }
    }

    /** The bytes of a unit of 120 bytes are put with refused calls between them; nothing of those is in it. */
    private static void refusedBytes() {
        check.sentence("A call that is refused (-1 or false) changes nothing.");
        int[] unit = {197, 2, 1, 1, 'A', 7, 1, 2, 0, 0, 0, 4};
        unit = Bytes.join(unit, Bytes.times(4, Bytes.join(new int[] {1, 0, 24}, Bytes.times(12, 187, 2))));
        PackageRules x = new PackageRules();
        for (int at = 0; at < unit.length; at++) {
            if (at >= 117) {
                check.due("put of 4 to " + at, x.put(-1, 4), false);
            }
            check.due("put of 0", x.put(-1, 0), false);
            check.due("put of 5", x.put(-1, 5), false);
            check.due("put of one", x.put(unit[at], 1), true);
        }
        check.due("put of 1 to 120", x.put(-1, 1), false);
        check.due("bytes()", x.bytes(), 120);
        check.due("load()", x.load(), 0);
        check.due("occurrences(0)", x.occurrences(0), 48);
        check.due("bytes() behind load()", x.bytes(), 0);
    }

    private static void numberOfBytes() {
        check.sentence("The number of bytes in the buffer.");
        PackageRules x = new PackageRules();
        for (int there = 1; there <= 120; there++) {
            x.put(-1, 1);
            check.due("bytes()", x.bytes(), there);
        }
        x.load();
        check.due("bytes() behind a fault", x.bytes(), 0);
        new UnitMaker("A").loadInto(x);
        check.due("bytes() behind a unit", x.bytes(), 0);
        x.put(1, 2);
        check.due("bytes() again", x.bytes(), 2);
        check.due("load() of what is there alone", x.load(), -1);
    }
}
