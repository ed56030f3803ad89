import java.util.Arrays;

/** Promise 4, and what the terms say of a unit: which bytes are faulty, and at which offset. */
final class ReadingTest {
    private static final Check check = new Check();

    public static void main(String[] args) {
        prefixes();
        head();
        texts();
        spans();
        numbersInConstants();
        parents();
        members();
        instructions();
        switches();
        wides();
        codeEnds();
        twoFaults();
        check.end();
    }

    /** Loads into a new object; k is the offset of the fault, -1 if there is none. */
    private static void fault(String what, int k, int... bytes) {
        PackageRules x = new PackageRules();
        int want = k < 0 ? 0 : -1 - k;
        check.due(what + " " + Arrays.toString(bytes), UnitMaker.load(x, bytes), want);
        check.due(what + ": bytes()", x.bytes(), 0);
        check.due(what + ": classes()", x.classes(), k < 0 ? 1 : 0);
    }

    private static int[] join(int[] first, int... second) {
        int[] all = Arrays.copyOf(first, first.length + second.length);
        System.arraycopy(second, 0, all, first.length, second.length);
        return all;
    }

    /** 1 TEXT A, 2 CLASS A, 3 TEXT m, 4 FIELD A.m, 5 METHOD A.m, 6 SPAN, 8 TEXT a.b. */
    private static final int[] CONSTANTS = {
        197, 8, 1, 1, 'A', 7, 1, 1, 1, 'm', 9, 2, 3, 10, 2, 3, 3, 255, 0, 1, 3, 'a', '.', 'b'
    };

    /** Where the code of the units of withCode begins: eight bytes stand between the constants and it. */
    private static final int CODE_AT = CONSTANTS.length + 8;

    private static int[] withCode(int... code) {
        return join(join(CONSTANTS, 2, 0, 0, 0, 1, 3, 9, code.length), code);
    }

    private static void prefixes() {
        UnitMaker maker = new UnitMaker("a.B").extending("C").with("d.E", "F").field("f").field("g")
                .method("m", 7).get("C", "f").step(200).call("F", "m").use(UnitMaker.CAST, "C")
                .method("n", 8).set("C", "g").use(UnitMaker.CONST, "F").raw(170, 0, 0, 0, 2, 0, 3);
        int[] unit = maker.bytes();
        fault("a whole unit", -1, unit);
        for (int length = 0; length < unit.length; length++) {
            fault("a unit cut at " + length, length, Arrays.copyOf(unit, length));
        }
        fault("a byte behind the unit", unit.length, join(unit, 0));
        fault("two bytes behind the unit", unit.length, join(unit, 0, 0));
    }

    private static void head() {
        fault("an empty buffer", 0);
        fault("a wrong first byte", 0, 196);
        fault("too many constants", 1, 197, 25);
        fault("24 constants", 2, 197, 24);
        fault("no constants", 2, 197, 0, 0, 0, 0, 0, 0);
        int[] many = {197, 24};
        for (int i = 0; i < 23; i++) {
            many = join(many, 1, 1, 'A' + i);
        }
        fault("24 constants in all", -1, join(many, 7, 1, 24, 0, 0, 0, 0));
        for (int tag : new int[] {0, 2, 4, 6, 8, 11, 255}) {
            fault("the tag " + tag, 2, 197, 1, tag, 1, 'A');
        }
    }

    private static void texts() {
        fault("a text of length 0", 3, 197, 1, 1, 0);
        fault("a text of length 11", 3, join(new int[] {197, 1, 1, 11}, "abcdefghijk".chars().toArray()));
        int[] ten = join(new int[] {197, 2, 1, 10}, "azAZbyBYc.".chars().toArray());
        fault("a text of length 10", ten.length, ten);
        for (int c : new int[] {0, 45, 47, 64, 91, 96, 123, '*', '#', '0', '_', 255}) {
            fault("the character " + c, 5, 197, 1, 1, 2, 'a', c);
        }
        fault("a name of ten characters", -1,
                join(join(new int[] {197, 2, 1, 10}, "azAZ.byBYc".chars().toArray()), 7, 1, 2, 0, 0, 0, 0));
        String[] noNames = {".", "..", ".a", "a.", "a..b", ".a.b", "a.b."};
        for (String text : noNames) {
            int[] unit = join(new int[] {197, 2, 1, text.length()}, text.chars().toArray());
            fault("no name: " + text, unit.length + 1, join(unit, 7, 1, 2, 0, 0, 0, 0));
        }
        fault("a text that is neither name nor word, unused", -1, 197, 3, 1, 1, 'A', 7, 1, 1, 1, '.', 2, 0, 0, 0, 0);
    }

    private static void spans() {
        fault("a span as the last number", 7, 197, 3, 1, 1, 'A', 7, 1, 3, 0, 0, 2, 0, 0, 0, 0);
        fault("a span before the last number", -1, 197, 4, 1, 1, 'A', 7, 1, 3, 1, 3, 2, 0, 0, 0, 0);
        fault("a span, then nothing", 8, 197, 4, 1, 1, 'A', 7, 1, 3);
        fault("a span, one byte", 9, 197, 4, 1, 1, 'A', 7, 1, 3, 7);
        fault("THIS is the span", 10, 197, 4, 1, 1, 'A', 7, 1, 3, 7, 7, 3, 0, 0, 0, 0);
        fault("THIS is behind the span", 10, 197, 4, 1, 1, 'A', 7, 1, 3, 7, 7, 4, 0, 0, 0, 0);
        fault("two spans", -1, 197, 6, 3, 1, 1, 1, 1, 'A', 3, 1, 1, 7, 3, 6, 0, 0, 0, 0);
        // A former unit had a class at the number that is now the second one of a span.
        PackageRules x = new PackageRules();
        check.due("first", UnitMaker.load(x, 197, 3, 1, 2, 'A', 'B', 7, 1, 7, 1, 2, 0, 0, 0, 0), 0);
        check.due("then", UnitMaker.load(x, 197, 4, 1, 1, 'A', 3, 0, 0, 7, 1, 3, 0, 0, 0, 0), -11);
        check.due("a number above n", UnitMaker.load(x, 197, 2, 1, 1, 'A', 7, 1, 3, 0, 0, 0, 0), -8);
    }

    private static void numbersInConstants() {
        fault("a class before its text", -1, 197, 2, 7, 2, 1, 1, 'A', 1, 0, 0, 0, 0);
        fault("a class of the text 0", 3, 197, 2, 7, 0, 1, 1, 'A', 1, 0, 0, 0, 0);
        fault("a class of a text above n", 3, 197, 2, 7, 3, 1, 1, 'A', 1, 0, 0, 0, 0);
        fault("a class of itself", 3, 197, 2, 7, 1, 1, 1, 'A', 1, 0, 0, 0, 0);
        for (int tag = 9; tag <= 10; tag++) {
            fault("a member of a text", 8, 197, 3, 1, 1, 'A', 7, 1, tag, 1, 1, 2, 0, 0, 0, 0);
            fault("a member without a class", 8, 197, 3, 1, 1, 'A', 7, 1, tag, 0, 1, 2, 0, 0, 0, 0);
            fault("a member with a class for its word", 9, 197, 3, 1, 1, 'A', 7, 1, tag, 2, 2, 2, 0, 0, 0, 0);
            fault("a member with a name for its word", 11, 197, 3, 1, 3, 'a', '.', 'b', 7, 1, tag, 2, 1, 2, 0, 0, 0, 0);
            fault("a member with a word", -1, 197, 3, 1, 1, 'A', 7, 1, tag, 2, 1, 2, 0, 0, 0, 0);
        }
        fault("a tag at fault behind a number at fault", 7, 197, 3, 1, 1, 'A', 7, 9, 2);
        fault("a missing constant behind a number at fault", 7, 197, 3, 1, 1, 'A', 7, 9);
        fault("a number at fault before THIS at fault", 6, 197, 2, 1, 1, 'A', 7, 9, 0);
        fault("a number at fault before a missing THIS", 6, 197, 2, 1, 1, 'A', 7, 9);
        fault("two numbers at fault", 3, 197, 3, 7, 9, 9, 9, 9, 1, 1, 'A');
        fault("a field whose class is at fault behind it", 9, 197, 4, 1, 1, 'A', 9, 3, 1, 7, 9, 7, 1);
    }

    private static void parents() {
        int[] start = {197, 3, 1, 1, 'A', 7, 1, 1, 3, 'a', '.', 'b'};
        int at = start.length;
        fault("THIS 0", at, join(start, 0, 0, 0, 0, 0));
        fault("THIS is a text", at, join(start, 1, 0, 0, 0, 0));
        fault("THIS above n", at, join(start, 4, 0, 0, 0, 0));
        fault("SUPER is a text", at + 1, join(start, 2, 1, 0, 0, 0));
        fault("SUPER above n", at + 1, join(start, 2, 255, 0, 0, 0));
        fault("SUPER is the class itself", -1, join(start, 2, 2, 0, 0, 0));
        fault("three interfaces", -1, join(start, 2, 0, 3, 2, 2, 2, 0, 0));
        fault("four interfaces", at + 2, join(start, 2, 0, 4, 2, 2, 2, 2, 0, 0));
        fault("an interface 0", at + 4, join(start, 2, 0, 2, 2, 0, 0, 0));
        fault("an interface that is a text", at + 3, join(start, 2, 0, 1, 3, 0, 0));
    }

    private static void members() {
        int[] start = {197, 3, 1, 1, 'A', 7, 1, 1, 3, 'a', '.', 'b', 2, 0, 0};
        int at = start.length;
        fault("four fields", -1, join(start, 4, 1, 1, 1, 1, 0));
        fault("five fields", at, join(start, 5, 1, 1, 1, 1, 1, 0));
        fault("a field that is a name", at + 2, join(start, 2, 1, 3, 0));
        fault("a field that is a class", at + 1, join(start, 1, 2, 0));
        fault("a field 0", at + 1, join(start, 1, 0, 0));
        fault("four methods", -1, join(start, 0, 4, 1, 0, 0, 1, 255, 0, 1, 7, 1, 0, 1, 0, 0));
        fault("five methods", at + 1, join(start, 0, 5, 1, 0, 0, 1, 0, 0, 1, 0, 0, 1, 0, 0, 1, 0, 0));
        fault("a method that is a name", at + 2, join(start, 0, 1, 3, 0, 0));
        fault("a method that is a class", at + 2, join(start, 0, 1, 2, 0, 0));
        fault("a method 0", at + 2, join(start, 0, 1, 0, 0, 0));
        for (String text : new String[] {".", ".a", "a.", "a.b"}) {
            int[] words = join(new int[] {197, 3, 1, 1, 'A', 7, 1, 1, text.length()}, text.chars().toArray());
            fault("a field that is no word: " + text, words.length + 4, join(words, 2, 0, 0, 1, 3, 0));
            fault("a method that is no word: " + text, words.length + 5, join(words, 2, 0, 0, 0, 1, 3, 0, 0));
        }
        fault("a code of 24", -1, join(join(start, 0, 1, 1, 0, 24), new int[24]));
        fault("a code of 25", at + 4, join(join(start, 0, 1, 1, 0, 25), new int[25]));
    }

    private static void instructions() {
        fault("no code", -1, withCode());
        fault("nop, push, step", -1, withCode(0, 16, 255, 25, 255, 16, 0));
        for (int i = 0; i < 256; i++) {
            boolean known = i == 0 || i == 16 || i == 18 || i == 25 || i >= 180 && i <= 182
                    || i == 187 || i == 192 || i == 193 || i == 170 || i == 196;
            if (!known) {
                fault("the instruction " + i, CODE_AT, withCode(i, 2));
            }
        }
        // For each instruction the numbers of CONSTANTS that it may have.
        numbers(18, 1, 2, 3, 8);
        numbers(180, 4);
        numbers(181, 4);
        numbers(182, 5);
        numbers(187, 2);
        numbers(192, 2);
        numbers(193, 2);
    }

    private static void numbers(int instruction, int... good) {
        for (int number = 0; number < 256; number++) {
            int n = number;
            boolean right = Arrays.stream(good).anyMatch(g -> g == n);
            fault(instruction + " with " + n, right ? -1 : CODE_AT + 2, withCode(0, instruction, n));
            boolean widens = instruction >= 180 && instruction <= 187;
            if (widens) {
                fault("wide " + instruction + " with " + n, right ? -1 : CODE_AT + 4, withCode(0, 196, instruction, 0, n));
            }
        }
    }

    private static void switches() {
        fault("three bytes of padding, count 0", -1, withCode(170, 0, 0, 0, 0));
        fault("two bytes of padding", -1, withCode(0, 170, 0, 0, 0));
        fault("one byte of padding", -1, withCode(0, 0, 170, 0, 0));
        fault("no padding", -1, withCode(0, 0, 0, 170, 0));
        fault("no padding, count 1", -1, withCode(0, 0, 0, 170, 1, 5));
        fault("padding in the second row", -1, withCode(0, 0, 0, 0, 0, 170, 0, 0, 2, 0, 10));
        fault("padding 1 not 0", CODE_AT + 1, withCode(170, 1, 0, 0, 0));
        fault("padding 3 not 0", CODE_AT + 3, withCode(170, 0, 0, 1, 0));
        fault("count 4", -1, withCode(170, 0, 0, 0, 4, 0, 1, 7, 8));
        fault("count 5", CODE_AT + 4, withCode(170, 0, 0, 0, 5, 0, 1, 2, 3, 4));
        fault("a byte that is the length of the code", CODE_AT + 6, withCode(170, 0, 0, 0, 2, 6, 7));
        fault("a byte above the length of the code", CODE_AT + 5, withCode(170, 0, 0, 0, 2, 255, 0));
        fault("a byte below the length, no instruction there", -1, withCode(170, 0, 0, 0, 1, 3));
        fault("an end in the padding", CODE_AT + 2, withCode(170, 0));
        fault("an end before the count", CODE_AT + 4, withCode(170, 0, 0, 0));
        fault("an end in the bytes", CODE_AT + 7, withCode(170, 0, 0, 0, 3, 0, 0));
        fault("an end before the count, no padding", CODE_AT + 4, withCode(0, 0, 0, 170));
        // The places count from the beginning of each code, not of the unit or of the first code.
        int[] two = join(join(CONSTANTS, 2, 0, 0, 0, 2, 3, 9, 1, 0), 3, 9, 5, 170, 0, 0, 0, 0);
        fault("padding in the second code", -1, two);
    }

    private static void wides() {
        fault("wide get", -1, withCode(196, 180, 0, 4));
        fault("wide new", -1, withCode(196, 187, 0, 2));
        for (int i : new int[] {0, 16, 18, 25, 170, 183, 192, 193, 196, 255}) {
            fault("wide " + i, CODE_AT + 1, withCode(196, i, 0, 2));
        }
        fault("wide, the higher byte not 0", CODE_AT + 3, withCode(196, 187, 1, 2));
        fault("wide, the higher byte not 0, no lower", CODE_AT + 3, withCode(196, 187, 1));
        fault("wide, no higher byte", CODE_AT + 2, withCode(196, 187));
        fault("wide, nothing", CODE_AT + 1, withCode(196));
    }

    private static void codeEnds() {
        for (int i : new int[] {16, 18, 25, 180, 181, 182, 187, 192, 193}) {
            fault("an end behind " + i, CODE_AT + 1, withCode(i));
            // A byte that lies behind the code must not be taken for the instruction's.
            fault("an end behind " + i + ", bytes behind the code", CODE_AT + 1, join(withCode(i), 2));
        }
        int[] longer = withCode(0, 0);
        longer[CODE_AT - 1] = 3;
        fault("a code that is longer than the unit", CODE_AT + 2, longer);
        longer = withCode(0, 16);
        longer[CODE_AT - 1] = 24;
        fault("an instruction that the unit ends in", CODE_AT + 2, longer);
        int[] followed = join(CONSTANTS, 2, 0, 0, 0, 2, 3, 9, 1, 16, 3, 9, 0);
        fault("an end in the first of two codes", CODE_AT + 1, followed);
    }

    /** The first fault from the left is told, though what follows it could be read on to another one. */
    private static void twoFaults() {
        fault("padding, then an instruction", CODE_AT + 1, withCode(170, 16, 0, 0, 99));
        fault("a count, then an instruction", CODE_AT + 4, withCode(170, 0, 0, 0, 16, 0, 99));
        fault("a way, then an instruction", CODE_AT + 5, withCode(170, 0, 0, 0, 1, 25, 0, 99));
        fault("a wide instruction, then another", CODE_AT + 1, withCode(196, 16, 0, 99));
        fault("a number, then an instruction", CODE_AT + 1, withCode(187, 9, 99));
        fault("a number, then a byte behind the unit", CODE_AT + 1, join(withCode(187, 9), 0));
        fault("a text's character, then a tag", 5, 197, 3, 1, 2, 'a', '1', 99);
        fault("a text's length, then a tag", 3, 197, 3, 1, 0, 99);
        fault("SUPER, then an interface", CONSTANTS.length + 1, join(CONSTANTS, 2, 1, 1, 1, 9));
        fault("a field's word, then a method's", CONSTANTS.length + 4, join(CONSTANTS, 2, 0, 0, 1, 2, 1, 2));
    }
}
