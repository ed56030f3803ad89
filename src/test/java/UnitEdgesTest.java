import java.util.Arrays;

/** The boundaries that the terms name for a unit, up to the codes of its methods, and promise 4 where it tells a fault. */
final class UnitEdgesTest {
    private static final Check check = new Check();
    private static final Bytes bytes = new Bytes(check);

    private static final int[] CONSTANTS = Bytes.CONSTANTS;
    private static final int THIS = CONSTANTS.length;
    /** A unit with as many interfaces, fields and methods as there may be. */
    private static final int[] UNIT = Bytes.join(CONSTANTS, 2, 9, 3, 2, 9, 2, 4, 1, 3, 1, 3, 4,
            1, 0, 0, 3, 255, 1, 0, 1, 7, 2, 187, 2, 3, 9, 4, 16, 1, 25, 2);
    private static final int[] LETTERS_AND_POINT =
            "abcdefghijklmnopqrstuvwxyzABCDEFGHIJKLMNOPQRSTUVWXYZ.".chars().toArray();

    public static void main(String[] args) {
        fullBuffer();
        firstByte();
        howManyConstants();
        numbersOfConstants();
        tags();
        lengthOfText();
        charactersOfText();
        span();
        spanAsLast();
        numberOfName();
        numbersOfMember();
        wordsAndNames();
        thisClass();
        superClass();
        interfaces();
        fields();
        methods();
        noByteBehind();
        firstFault();
        missingByte();
        numbersBehindConstants();
        numbersInOrder();
        unitsBefore();
        check.end();
    }

    /** 120 bytes: a class A with four codes of 24 bytes. */
    private static int[] fullUnit() {
        int[] start = {197, 2, 1, 1, 'A', 7, 1, 2, 0, 0, 0, 4};
        return Bytes.join(start, Bytes.times(4, Bytes.join(new int[] {1, 0, 24}, new int[24])));
    }

    private static void fullBuffer() {
        check.sentence("The BUFFER holds at most 120 bytes (0 .. 255) at offsets 0, 1, ..");
        int[] full = fullUnit();
        check.due("the length of the full unit", full.length, 120);
        bytes.whole("120 bytes", full);
        bytes.faulty("at the last offset", 119, Bytes.changed(full, 119, 1));
        bytes.faulty("behind the last offset", 120, Bytes.changed(full, 119, 16));
        // With an interface, the last byte of the last code is the 121st.
        int[] longer = Bytes.join(Bytes.join(new int[] {197, 2, 1, 1, 'A', 7, 1, 2, 0, 1, 2}, 0, 4),
                Arrays.copyOfRange(full, 12, 119));
        check.due("the length of what is there of it", longer.length, 120);
        bytes.faulty("a unit of 121 bytes", 120, longer);
        PackageRules x = new PackageRules();
        UnitMaker.put(x, longer);
        check.due("put of the 121st byte", x.put(0, 1), false);
        check.due("load without it", x.load(), -121);
        check.due("load of the full unit", UnitMaker.load(x, full), 0);
    }

    private static void firstByte() {
        check.sentence("197.");
        bytes.only("a first byte", UNIT, 0, 197);
        bytes.faulty("197 and no more", 1, 197);
        bytes.faulty("196 and no more", 0, 196);
    }

    private static void howManyConstants() {
        check.sentence("Then n, 0 .. 24, and the CONSTANTS with the numbers 1 .. n.");
        bytes.faulty("n = 0, nothing behind it", 2, 197, 0);
        bytes.faulty("n = 0: there is no class to be THIS", 2, 197, 0, 1, 0, 0, 0, 0);
        for (int n = 2; n <= 24; n++) {
            int[] start = Bytes.join(new int[] {197, n, 1, 1, 'A'}, Bytes.times(n - 1, 7, 1));
            bytes.whole("n = " + n, Bytes.join(start, n, 0, 0, 0, 0));
            bytes.faulty("n = " + n + ", the last one missing", start.length - 2, Arrays.copyOf(start, start.length - 2));
        }
        for (int n = 25; n < 256; n++) {
            bytes.faulty("n = " + n, 1, Bytes.join(new int[] {197, n, 1, 1, 'A'}, Bytes.times(50, 7, 1)));
        }
        bytes.faulty("n = 25 and no more", 1, 197, 25);
        bytes.faulty("n = 24 and no more", 2, 197, 24);
    }

    private static void numbersOfConstants() {
        check.sentence("the CONSTANTS with the numbers 1 .. n.");
        int[] first = {197, 2, 7, 2, 1, 1, 'A', 1, 0, 0, 0, 0};
        bytes.only("THIS where the class has the number 1", first, 7, 1);
        int[] last = Bytes.join(Bytes.join(new int[] {197, 24}, Bytes.times(23, 1, 1, 'A')), 7, 1, 24, 24, 0, 0, 0);
        bytes.only("THIS where the class has the number 24", last, last.length - 5, 24);
        bytes.only("SUPER where the class has the number 24", last, last.length - 4, 0, 24);
        int[] text = Bytes.join(Bytes.join(new int[] {197, 24, 7, 24, 7, 24}, Bytes.times(10, 3, 0, 0)), 7, 24, 1, 1, 'A', 1, 0, 0, 0, 0);
        bytes.only("the class of the text with the number 24", text, 3, 24);
    }

    private static void tags() {
        check.sentence("A constant begins with a tag: 1 TEXT");
        for (int tag = 0; tag < 256; tag++) {
            if (tag != 1 && tag != 3 && tag != 7 && tag != 9 && tag != 10) {
                bytes.faulty("the first tag", 2, Bytes.changed(UNIT, 2, tag));
                bytes.faulty("a tag in the midst", 10, Bytes.changed(UNIT, 10, tag));
                bytes.faulty("the last tag", 26, Bytes.changed(UNIT, 26, tag));
            }
        }
        for (int tag : new int[] {1, 3, 7, 9, 10}) {
            bytes.faulty("the tag " + tag + " and no more", 3, 197, 2, tag);
        }
    }

    private static void lengthOfText() {
        check.sentence("1 TEXT: a length 1 .. 10, and so many characters");
        for (int length = 0; length < 256; length++) {
            int[] start = Bytes.join(new int[] {197, 2, 1, length}, Bytes.times(Math.min(length, 100), 'q'));
            int[] unit = Bytes.join(start, 7, 1, 2, 0, 0, 0, 0);
            if (length >= 1 && length <= 10) {
                bytes.whole("a text of length " + length, unit);
                bytes.faulty("one character missing", start.length - 1, Arrays.copyOf(start, start.length - 1));
            } else {
                bytes.faulty("a text of length " + length, 3, unit);
            }
        }
        bytes.faulty("a length 0 and no more", 3, 197, 2, 1, 0);
        bytes.faulty("a length 11 and no more", 3, 197, 2, 1, 11);
    }

    private static void charactersOfText() {
        check.sentence("so many characters (97 .. 122, 65 .. 90: letters; 46: a point)");
        int[] unit = {197, 3, 1, 1, 'A', 7, 1, 1, 10, 'x', 'x', 'x', 'x', 'x', 'x', 'x', 'x', 'x', 'x', 2, 0, 0, 0, 0};
        bytes.only("the first character", unit, 9, LETTERS_AND_POINT);
        bytes.only("a character in the midst", unit, 13, LETTERS_AND_POINT);
        bytes.only("the tenth character", unit, 18, LETTERS_AND_POINT);
        int[] one = {197, 3, 1, 1, 'A', 7, 1, 1, 1, 'x', 2, 0, 0, 0, 0};
        bytes.only("the only character", one, 9, LETTERS_AND_POINT);
    }

    private static void span() {
        check.sentence("3 SPAN: two bytes; it takes two numbers, the second of which is no constant");
        bytes.any("the first byte of a span", UNIT, 17);
        bytes.any("the second byte of a span", UNIT, 18);
        bytes.faulty("a span, then nothing", 8, 197, 4, 1, 1, 'A', 7, 1, 3);
        bytes.faulty("a span, one byte", 9, 197, 4, 1, 1, 'A', 7, 1, 3, 7);
        int[] unit = {197, 4, 1, 1, 'A', 7, 1, 3, 7, 7, 2, 0, 0, 0, 0};
        bytes.only("THIS", unit, 10, 2);
        // The constant behind the span has the number behind its second one.
        bytes.whole("a class behind a span", 197, 4, 3, 1, 1, 1, 1, 'A', 7, 3, 4, 0, 0, 0, 0);
        bytes.faulty("a class behind a span, by the number before", 10, 197, 4, 3, 1, 1, 1, 1, 'A', 7, 3, 3, 0, 0, 0, 0);
        bytes.faulty("a class of the text 2, which is none", 9, 197, 4, 3, 1, 1, 1, 1, 'A', 7, 2, 4, 0, 0, 0, 0);
        bytes.whole("two spans", 197, 6, 3, 1, 1, 1, 1, 'A', 3, 1, 1, 7, 3, 6, 0, 0, 0, 0);
        int[] many = Bytes.join(Bytes.join(new int[] {197, 24}, Bytes.times(11, 3, 0, 255)), 1, 1, 'A', 7, 23);
        bytes.whole("eleven spans", Bytes.join(many, 24, 0, 0, 0, 0));
        bytes.faulty("twelve spans, then THIS", 38, Bytes.join(Bytes.join(new int[] {197, 24}, Bytes.times(12, 3, 1, 1)), 1));
    }

    private static void spanAsLast() {
        check.sentence("(so it cannot have the number n)");
        bytes.faulty("a span as 1 of 1", 2, 197, 1, 3, 0, 0);
        bytes.faulty("a span as 1 of 1 and no more", 2, 197, 1, 3);
        bytes.faulty("a span as 3 of 3", 7, 197, 3, 1, 1, 'A', 7, 1, 3, 0, 0, 2, 0, 0, 0, 0);
        bytes.whole("a span as 3 of 4", 197, 4, 1, 1, 'A', 7, 1, 3, 0, 0, 2, 0, 0, 0, 0);
        bytes.faulty("a span as 4 of 4, behind a span", 8, 197, 4, 1, 1, 'A', 3, 0, 0, 3, 0, 0, 2, 0, 0, 0, 0);
        int[] many = Bytes.join(new int[] {197, 24, 1, 1, 'A'}, Bytes.times(21, 7, 1));
        bytes.whole("a span as 23 of 24", Bytes.join(many, 3, 9, 9, 2, 0, 0, 0, 0));
        bytes.faulty("a span as 24 of 24", many.length + 2, Bytes.join(many, 7, 1, 3, 9, 9, 2, 0, 0, 0, 0));
    }

    private static void numberOfName() {
        check.sentence("7 CLASS: the number of a text that is a NAME.");
        bytes.only("the number in the first class", UNIT, 6, 1, 3, 8);
        bytes.only("the number in the last class", UNIT, 25, 1, 3, 8);
        bytes.whole("a class before its text", 197, 2, 7, 2, 1, 1, 'A', 1, 0, 0, 0, 0);
        bytes.faulty("a class of itself", 3, 197, 2, 7, 1, 1, 1, 'A', 1, 0, 0, 0, 0);
    }

    private static void numbersOfMember() {
        check.sentence("9 FIELD, 10 METHOD: the number of a CLASS, and the number of a text that is a WORD.");
        bytes.only("the class of a field", UNIT, 11, 2, 9);
        bytes.only("the word of a field", UNIT, 12, 1, 3);
        bytes.only("the class of a method", UNIT, 14, 2, 9);
        bytes.only("the word of a method", UNIT, 15, 1, 3);
        for (int tag = 9; tag <= 10; tag++) {
            bytes.whole("a member before its class and word", 197, 3, tag, 3, 2, 1, 1, 'A', 7, 2, 3, 0, 0, 0, 0);
            bytes.faulty("a member without a byte", 8, 197, 3, 1, 1, 'A', 7, 1, tag);
            bytes.faulty("a member with one byte", 9, 197, 3, 1, 1, 'A', 7, 1, tag, 2);
        }
    }

    /** All texts of 1 .. 10 characters that are points and one letter. */
    private static void wordsAndNames() {
        check.sentence("A WORD is one or more letters; a NAME is words with one point between each two (also one word alone).");
        for (int length = 1; length <= 10; length++) {
            for (int bits = 0; bits < 1 << length; bits++) {
                StringBuilder text = new StringBuilder();
                for (int j = 0; j < length; j++) {
                    text.append((bits >> j & 1) != 0 ? '.' : 'k');
                }
                wordOrName(text.toString());
            }
        }
        wordOrName("azAZbyBYmM");
        wordOrName("aZ.Ab.yB.M");
    }

    private static void wordOrName(String text) {
        int[] start = Bytes.join(new int[] {197, 4, 1, 1, 'A', 7, 1}, Bytes.text(text));
        int number = start.length + 1;
        expect("a class " + text, text.matches("[a-zA-Z]+([.][a-zA-Z]+)*"), number,
                Bytes.join(start, 7, 3, 4, 0, 0, 0, 0));
        boolean word = text.matches("[a-zA-Z]+");
        expect("a field's word " + text, word, number + 1, Bytes.join(start, 9, 2, 3, 2, 0, 0, 0, 0));
        expect("a method's word " + text, word, number + 1, Bytes.join(start, 10, 2, 3, 2, 0, 0, 0, 0));
        expect("a field " + text, word, number + 5, Bytes.join(start, 7, 1, 2, 0, 0, 1, 3, 0));
        expect("a method " + text, word, number + 6, Bytes.join(start, 7, 1, 2, 0, 0, 0, 1, 3, 0, 0));
    }

    private static void expect(String what, boolean right, int offset, int[] unit) {
        if (right) {
            bytes.whole(what, unit);
        } else {
            bytes.faulty(what, offset, unit);
        }
    }

    private static void thisClass() {
        check.sentence("Then THIS, the number of a CLASS;");
        bytes.only("THIS", UNIT, THIS, 2, 9);
        bytes.faulty("no THIS", THIS, CONSTANTS);
    }

    private static void superClass() {
        check.sentence("SUPER, the number of a CLASS, or 0 for none;");
        bytes.only("SUPER", UNIT, THIS + 1, 0, 2, 9);
        PackageRules x = new PackageRules();
        UnitMaker.load(x, Bytes.join(CONSTANTS, 2, 0, 0, 0, 0));
        check.due("occurrences(0) with SUPER 0", x.occurrences(0), 0);
        UnitMaker.load(x, Bytes.join(CONSTANTS, 2, 2, 0, 0, 0));
        check.due("occurrences(0) with SUPER 2", x.occurrences(0), 1);
    }

    private static void interfaces() {
        check.sentence("how many INTERFACES, 0 .. 3, and the number of a CLASS for each;");
        for (int count = 0; count < 256; count++) {
            int[] unit = Bytes.join(Bytes.join(CONSTANTS, 2, 0, count), Bytes.times(Math.min(count, 80), 9));
            expect(count + " interfaces", count <= 3, THIS + 2, Bytes.join(unit, 0, 0));
        }
        for (int i = 1; i <= 3; i++) {
            bytes.only("interface " + i, UNIT, THIS + 2 + i, 2, 9);
        }
    }

    private static void fields() {
        check.sentence("how many FIELDS, 0 .. 4, and the number of a text that is a word for each;");
        for (int count = 0; count < 256; count++) {
            int[] unit = Bytes.join(Bytes.join(CONSTANTS, 2, 0, 0, count), Bytes.times(Math.min(count, 80), 3));
            expect(count + " fields", count <= 4, THIS + 3, Bytes.join(unit, 0));
        }
        for (int i = 1; i <= 4; i++) {
            bytes.only("field " + i, UNIT, THIS + 6 + i, 1, 3);
        }
    }

    private static void methods() {
        check.sentence("how many METHODS, 0 .. 4, and for each the number of a text that is a word, a LINE (any byte),"
                + " the length 0 .. 24 of its CODE, and the code.");
        for (int count = 0; count < 256; count++) {
            int[] unit = Bytes.join(CONSTANTS, 2, 0, 0, 0, count);
            expect(count + " methods", count <= 4, THIS + 4, Bytes.join(unit, Bytes.times(Math.min(count, 28), 3, 0, 0)));
        }
        int[] words = {THIS + 12, THIS + 15, THIS + 19, THIS + 24};
        for (int word : words) {
            bytes.only("the word of a method", UNIT, word, 1, 3);
            bytes.any("the line of a method", UNIT, word + 1);
        }
        for (int length = 0; length < 256; length++) {
            int[] unit = Bytes.join(Bytes.join(CONSTANTS, 2, 0, 0, 0, 1, 3, 0, length), new int[Math.min(length, 80)]);
            expect("a code of " + length, length <= 24, THIS + 7, unit);
            // The length alone is at fault, whether the code is there or not.
            expect("a code of " + length + ", none there", length == 0, length <= 24 ? THIS + 8 : THIS + 7,
                    Arrays.copyOf(unit, THIS + 8));
        }
    }

    private static void noByteBehind() {
        check.sentence("There is no byte behind that.");
        for (int b = 0; b < 256; b++) {
            bytes.faulty("one byte behind", UNIT.length, Bytes.join(UNIT, b));
        }
        for (int more = 2; UNIT.length + more <= 120; more++) {
            bytes.faulty(more + " bytes behind", UNIT.length, Bytes.join(UNIT, new int[more]));
        }
        int[] plain = Bytes.join(CONSTANTS, 2, 0, 0, 0, 0);
        bytes.whole("no method", plain);
        bytes.faulty("a byte behind no method", plain.length, Bytes.join(plain, 0));
        bytes.faulty("a second unit behind the first", UNIT.length, Arrays.copyOf(Bytes.join(UNIT, UNIT), 120));
    }

    private static void firstFault() {
        check.sentence("A unit that is not so is FAULTY at the offset of the first byte, read from the left, that cannot be as it is");
        bytes.faulty("a first byte, then n", 0, 0, 25);
        bytes.faulty("n, then a tag", 1, 197, 25, 0);
        bytes.faulty("a text's length, then a tag", 3, 197, 3, 1, 0, 99);
        bytes.faulty("a text's character, then a tag", 5, 197, 3, 1, 2, 'a', '1', 99);
        bytes.faulty("two characters", 4, 197, 3, 1, 2, '1', '2');
        bytes.faulty("a tag, then a tag", 2, 197, 3, 99, 99);
        bytes.faulty("THIS, then SUPER", THIS, Bytes.join(CONSTANTS, 1, 1, 0, 0, 0));
        bytes.faulty("SUPER, then how many interfaces", THIS + 1, Bytes.join(CONSTANTS, 2, 1, 4, 0, 0));
        bytes.faulty("how many interfaces, then an interface", THIS + 2, Bytes.join(CONSTANTS, 2, 0, 4, 0, 0));
        bytes.faulty("an interface, then how many fields", THIS + 3, Bytes.join(CONSTANTS, 2, 0, 1, 0, 5, 0));
        bytes.faulty("how many fields, then a field", THIS + 3, Bytes.join(CONSTANTS, 2, 0, 0, 5, 0, 0));
        bytes.faulty("a field, then how many methods", THIS + 4, Bytes.join(CONSTANTS, 2, 0, 0, 1, 0, 5));
        bytes.faulty("how many methods, then a word", THIS + 4, Bytes.join(CONSTANTS, 2, 0, 0, 0, 5, 0));
        bytes.faulty("a method's word, then its length", THIS + 5, Bytes.join(CONSTANTS, 2, 0, 0, 0, 1, 0, 0, 25));
        bytes.faulty("a length, then an instruction", THIS + 7, Bytes.join(CONSTANTS, 2, 0, 0, 0, 1, 3, 0, 25, 99));
        bytes.faulty("an instruction, then a byte behind", THIS + 8, Bytes.join(CONSTANTS, 2, 0, 0, 0, 1, 3, 0, 1, 99, 0));
        bytes.faulty("a fault, then a missing byte", THIS + 4, Bytes.join(CONSTANTS, 2, 0, 0, 1, 0));
    }

    private static void missingByte() {
        check.sentence("where a byte is missing, at the offset where it would be");
        for (int length = 0; length < UNIT.length; length++) {
            bytes.faulty("a unit cut at " + length, length, Arrays.copyOf(UNIT, length));
        }
        bytes.whole("the unit, not cut", UNIT);
    }

    private static void numbersBehindConstants() {
        check.sentence("The numbers in constants are looked at only when all constants have been read");
        bytes.faulty("a class's number, then a tag", 7, 197, 3, 1, 1, 'A', 7, 9, 2);
        bytes.faulty("a class's number, then a missing tag", 7, 197, 3, 1, 1, 'A', 7, 9);
        bytes.faulty("a class's number, then a text's length", 8, 197, 3, 1, 1, 'A', 7, 9, 1, 0);
        bytes.faulty("a class's number, then a character", 9, 197, 3, 1, 1, 'A', 7, 9, 1, 1, '*');
        bytes.faulty("a class's number, then a missing byte", 8, 197, 3, 1, 1, 'A', 7, 9, 7);
        bytes.faulty("a class's number, then a span as the last", 7, 197, 3, 1, 1, 'A', 7, 9, 3, 0, 0);
        bytes.faulty("a member's numbers, then a tag", 5, 197, 3, 9, 0, 0, 2);
        bytes.faulty("a member's numbers, then a missing tag", 5, 197, 3, 10, 0, 0);
        bytes.faulty("a class's number, then THIS", 6, 197, 2, 1, 1, 'A', 7, 9, 0);
        bytes.faulty("a class's number, then a missing THIS", 6, 197, 2, 1, 1, 'A', 7, 9);
    }

    private static void numbersInOrder() {
        check.sentence("in the order in which they lie.");
        bytes.faulty("two classes' numbers", 3, 197, 3, 7, 0, 7, 0, 1, 1, 'A', 1);
        bytes.faulty("a class's, then a member's", 3, 197, 3, 7, 9, 9, 9, 9, 1, 1, 'A');
        bytes.faulty("a member's, then a class's", 3, 197, 3, 9, 9, 9, 7, 9, 1, 1, 'A');
        bytes.faulty("both of a member", 8, 197, 3, 1, 1, 'A', 7, 1, 9, 1, 2, 2, 0, 0, 0, 0);
        bytes.faulty("the second of a member, then a class's", 7, 197, 3, 1, 1, 'A', 9, 3, 7, 7, 0);
        // The member's number is the number of a CLASS; it is that CLASS's own byte, behind it, that cannot be as it is.
        bytes.faulty("a member whose class is at fault behind it", 9, 197, 4, 1, 1, 'A', 9, 3, 1, 7, 9, 7, 1);
        bytes.faulty("a member whose class is at fault before it", 6, 197, 3, 1, 1, 'A', 7, 2, 10, 2, 1);
    }

    /** What a former unit had at a number, or behind an offset, is not there any more. */
    private static void unitsBefore() {
        check.sentence("the buffer is empty afterwards, in any case (an empty one is FAULTY at 0).");
        PackageRules x = new PackageRules();
        check.due("an empty buffer", x.load(), -1);
        check.due("a unit", UnitMaker.load(x, UNIT), 0);
        check.due("an empty buffer again", x.load(), -1);
        check.due("the beginning of a unit", UnitMaker.load(x, Arrays.copyOf(UNIT, 50)), -51);
        check.due("an empty buffer behind a fault", x.load(), -1);
        check.due("THIS is a class of the unit before", UnitMaker.load(x, 197, 1, 1, 1, 'A', 2, 0, 0, 0, 0), -6);
        check.due("a class of a text of the unit before", UnitMaker.load(x, 197, 2, 1, 1, 'A', 7, 3, 2, 0, 0, 0, 0), -7);
        check.due("the second number of a span was a class",
                UnitMaker.load(x, 197, 4, 3, 0, 0, 1, 1, 'A', 7, 3, 2, 0, 0, 0, 0), -11);
        check.due("n = 0, with all constants of the unit before", UnitMaker.load(x, 197, 0, 2, 0, 0, 0, 0), -3);
    }
}
