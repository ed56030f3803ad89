import java.util.Arrays;

/** The boundaries that the terms name for the code of a method. */
final class CodeEdgesTest {
    private static final Check check = new Check();
    private static final Bytes bytes = new Bytes(check);

    /** Where the code of a unit of withCode begins: eight bytes stand between the constants and it. */
    private static final int CODE = Bytes.CONSTANTS.length + 8;
    private static final int[] NAMING = {18, 180, 181, 182, 187, 192, 193};

    public static void main(String[] args) {
        wholly();
        emptyAndFull();
        instructions();
        anyByte();
        classOrText();
        members();
        classes();
        padding();
        placesOfEachCode();
        counts();
        ways();
        wideInstructions();
        wideNumbers();
        behindTheCode();
        behindTheBuffer();
        firstFault();
        check.end();
    }

    private static int[] withCode(int... code) {
        return Bytes.join(Bytes.join(Bytes.CONSTANTS, 2, 0, 0, 0, 1, 3, 9, code.length), code);
    }

    /** The code, and behind it a second method, whose bytes must not be taken for the first one's. */
    private static int[] followed(int... code) {
        int[] unit = Bytes.join(withCode(code), 3, 2, 1, 0);
        return Bytes.changed(unit, CODE - 4, 2);
    }

    private static void wholly() {
        check.sentence("CODE is INSTRUCTIONS, one after the other, each wholly in the code");
        bytes.whole("each instruction once", withCode(0, 16, 1, 18, 2, 25, 1, 180, 4, 181, 4, 182, 5, 187, 2, 192, 2, 193, 2));
        bytes.whole("each other one once", withCode(196, 182, 0, 5, 0, 0, 0, 170, 0, 0));
        for (int i : Bytes.join(NAMING, 16, 25)) {
            bytes.faulty("only the " + i, CODE + 1, followed(i));
            bytes.faulty("only the " + i + " behind another", CODE + 2, followed(0, i));
        }
    }

    private static void emptyAndFull() {
        check.sentence("the length 0 .. 24 of its CODE, and the code.");
        bytes.whole("an empty code", withCode());
        bytes.whole("an empty code before another", followed());
        bytes.whole("a full code of nops", withCode(new int[24]));
        bytes.whole("a full code of twelve", withCode(Bytes.times(12, 187, 2)));
        bytes.whole("a full code of six", withCode(Bytes.times(6, 196, 187, 0, 2)));
        int[] tooLong = withCode(new int[25]);
        bytes.faulty("a code of 25", CODE - 1, tooLong);
    }

    private static void instructions() {
        check.sentence("0 NOP.");
        int[] known = Bytes.join(NAMING, 0, 16, 25, 170, 196);
        for (int i = 0; i < 256; i++) {
            int b = i;
            boolean right = Arrays.stream(known).anyMatch(k -> k == b);
            if (!right) {
                bytes.faulty("the instruction " + i, CODE, withCode(i, 2));
                bytes.faulty("the instruction " + i + " in the last place", CODE + 23, withCode(Bytes.join(new int[23], i)));
            }
        }
    }

    private static void anyByte() {
        check.sentence("16 PUSH: any byte.");
        bytes.any("PUSH", withCode(16, 0), CODE + 1);
        bytes.any("PUSH in the last places", withCode(Bytes.join(new int[22], 16, 0)), CODE + 23);
        check.sentence("25 STEP: any byte.");
        bytes.any("STEP", withCode(25, 0), CODE + 1);
        bytes.any("STEP in the last places", withCode(Bytes.join(new int[22], 25, 0)), CODE + 23);
    }

    private static void classOrText() {
        check.sentence("18 CONST: the number of a CLASS or a text.");
        bytes.only("CONST", withCode(18, 2), CODE + 1, 1, 2, 3, 8, 9, 10);
    }

    private static void members() {
        check.sentence("180 GET, 181 SET: the number of a FIELD.");
        bytes.only("GET", withCode(180, 4), CODE + 1, 4);
        bytes.only("SET", withCode(181, 4), CODE + 1, 4);
        check.sentence("182 CALL: the number of a METHOD.");
        bytes.only("CALL", withCode(182, 5), CODE + 1, 5);
    }

    private static void classes() {
        check.sentence("187 NEW, 192 CAST, 193 TEST: the number of a CLASS.");
        for (int i : new int[] {187, 192, 193}) {
            bytes.only("instruction " + i, withCode(i, 2), CODE + 1, 2, 9);
        }
    }

    /** A SWITCH at each place of a full code; behind place 19 there is no room for its count. */
    private static void padding() {
        check.sentence("170 SWITCH: bytes 0 up to the next place of the code that is a multiple of 4"
                + " (its first byte has the place 0; none, if the place behind the 170 is one)");
        int[] countAt = {4, 4, 4, 4, 8, 8, 8, 8, 12, 12, 12, 12, 16, 16, 16, 16, 20, 20, 20, 20, 24, 24, 24, 24};
        for (int place = 0; place < 24; place++) {
            int[] code = Bytes.changed(new int[24], place, 170);
            if (countAt[place] == 24) {
                bytes.faulty("a SWITCH at place " + place, CODE + 24, followed(code));
                continue;
            }
            int[] counted = Bytes.changed(code, countAt[place], 1);
            bytes.whole("a SWITCH at place " + place, withCode(counted));
            bytes.faulty("its count 5", CODE + countAt[place], withCode(Bytes.changed(code, countAt[place], 5)));
            for (int at = place + 1; at < countAt[place]; at++) {
                bytes.only("its padding at place " + at, withCode(counted), CODE + at, 0);
            }
        }
    }

    private static void placesOfEachCode() {
        check.sentence("(its first byte has the place 0; none, if the place behind the 170 is one)");
        for (int before = 0; before <= 7; before++) {
            int[] start = Bytes.join(Bytes.CONSTANTS, 2, 0, 0, 0, 2, 3, 9, before);
            int[] unit = Bytes.join(Bytes.join(start, new int[before]), 3, 9, 6, 170, 0, 0, 0, 1, 5);
            bytes.whole("a SWITCH in a code behind one of " + before, unit);
            bytes.only("its last padding", unit, unit.length - 3, 0);
        }
        // The constants before the code may end anywhere.
        for (int length = 1; length <= 4; length++) {
            int[] start = Bytes.join(Bytes.join(new int[] {197, 2}, Bytes.text("AAAA".substring(0, length))), 7, 1);
            bytes.whole("a SWITCH behind a text of " + length, Bytes.join(start, 2, 0, 0, 0, 1, 1, 0, 5, 170, 0, 0, 0, 0));
        }
    }

    private static void counts() {
        check.sentence("then a count 0 .. 4, and so many bytes");
        for (int count = 0; count < 256; count++) {
            int[] code = Bytes.join(new int[] {0, 0, 0, 170, count}, new int[Math.min(count, 19)]);
            if (count <= 4) {
                bytes.whole("the count " + count, withCode(code));
            } else {
                bytes.faulty("the count " + count, CODE + 4, withCode(code));
            }
        }
        for (int count = 1; count <= 4; count++) {
            int[] code = Bytes.join(new int[] {0, 0, 0, 170, count}, new int[count - 1]);
            bytes.faulty("the count " + count + ", one byte missing", CODE + 4 + count, followed(code));
            // Behind the ways that there are, the next byte is an instruction.
            bytes.faulty("the count " + count + ", then 1", CODE + 5 + count, withCode(Bytes.join(code, 0, 1)));
        }
        bytes.faulty("no count", CODE + 4, followed(0, 0, 0, 170));
    }

    private static void ways() {
        check.sentence("each less than the length of the code.");
        for (int length = 9; length <= 24; length++) {
            int[] below = new int[length];
            Arrays.setAll(below, i -> i);
            int[] unit = withCode(Bytes.join(new int[] {170, 0, 0, 0, 4, 0, 0, 0, 0}, new int[length - 9]));
            for (int i = 1; i <= 4; i++) {
                bytes.only("way " + i + " in a code of " + length, unit, CODE + 4 + i, below);
            }
        }
        bytes.only("the only way in a code of 6", withCode(170, 0, 0, 0, 1, 0), CODE + 5, 0, 1, 2, 3, 4, 5);
        // It is the length of its own code that counts, not of the one before.
        int[] second = Bytes.join(followed(new int[24]), 0);
        second = Bytes.join(Arrays.copyOf(second, CODE + 24), 3, 0, 6, 170, 0, 0, 0, 1, 0);
        bytes.only("a way in a short code behind a full one", second, second.length - 1, 0, 1, 2, 3, 4, 5);
    }

    private static void wideInstructions() {
        check.sentence("196 WIDE: then 180, 181, 182 or 187, whose number follows in two bytes, the higher one first");
        for (int i = 0; i < 256; i++) {
            if (i != 180 && i != 181 && i != 182 && i != 187) {
                bytes.faulty("WIDE " + i, CODE + 1, withCode(196, i, 0, 2));
                bytes.faulty("WIDE " + i + " and no more", CODE + 1, followed(196, i));
            }
        }
        bytes.whole("WIDE of each", withCode(196, 180, 0, 4, 196, 181, 0, 4, 196, 182, 0, 5, 196, 187, 0, 2));
        bytes.faulty("WIDE alone", CODE + 1, followed(196));
        for (int i : new int[] {180, 181, 182, 187}) {
            bytes.faulty("WIDE " + i + ", no higher byte", CODE + 2, followed(196, i));
            bytes.faulty("WIDE " + i + ", no lower byte", CODE + 3, followed(196, i, 0));
            bytes.faulty("WIDE " + i + ", no lower byte, the higher one too large", CODE + 3, followed(196, i, 1));
        }
    }

    private static void wideNumbers() {
        check.sentence("(the number is at fault at the lower one)");
        int[][] right = {{180, 4}, {181, 4}, {182, 5}, {187, 2, 9}};
        for (int[] row : right) {
            int[] unit = withCode(196, row[0], 0, row[1]);
            bytes.only("the lower byte of " + row[0], unit, CODE + 3, Arrays.copyOfRange(row, 1, row.length));
            for (int high = 1; high < 256; high++) {
                bytes.faulty("the higher byte " + high, CODE + 3, Bytes.changed(unit, CODE + 2, high));
            }
            bytes.faulty("the bytes in the other order", CODE + 3, withCode(196, row[0], row[1], 0));
        }
    }

    private static void behindTheCode() {
        check.sentence("(also where an instruction would need a byte behind its code)");
        for (int i : Bytes.join(NAMING, 16, 25, 196)) {
            for (int place = 0; place < 24; place++) {
                int[] unit = followed(Bytes.join(new int[place], i));
                bytes.faulty(i + " in the last place", CODE + place + 1, unit);
                bytes.faulty(i + " in the last place, then a fault", CODE + place + 1, Bytes.join(unit, 0));
            }
        }
        bytes.faulty("an end in the padding", CODE + 1, followed(170));
        bytes.faulty("an end in the padding, one byte", CODE + 2, followed(170, 0));
        bytes.faulty("an end before the count", CODE + 4, followed(170, 0, 0, 0));
        bytes.faulty("an end in the ways", CODE + 7, followed(170, 0, 0, 0, 3, 0, 0));
        bytes.faulty("an end in the padding, then a fault", CODE + 2, Bytes.join(followed(170, 0), 0));
        bytes.faulty("an end before the count, then a fault", CODE + 4, Bytes.join(followed(170, 0, 0, 0), 0));
        bytes.faulty("an end in the ways, then a fault", CODE + 6, Bytes.join(followed(170, 0, 0, 0, 2, 0), 0));
        bytes.faulty("an end behind WIDE 187, then a fault", CODE + 2, Bytes.join(followed(196, 187), 0));
        bytes.faulty("an end in WIDE 187, then a fault", CODE + 3, Bytes.join(followed(196, 187, 0), 0));
        bytes.faulty("a last code, a byte behind the unit", CODE + 1, Bytes.join(withCode(187), 2));
        bytes.faulty("the byte that would be there is wrong too", CODE + 1, Bytes.join(withCode(187), 99));
    }

    private static void behindTheBuffer() {
        check.sentence("where a byte is missing, at the offset where it would be");
        for (int length = 1; length <= 24; length++) {
            int[] cut = Bytes.changed(withCode(), CODE - 1, length);
            bytes.faulty("a code of " + length + ", none of it there", CODE, cut);
            for (int there = 1; there < length; there++) {
                bytes.faulty(there + " of " + length, CODE + there, Bytes.join(cut, new int[there]));
            }
        }
        int[] cut = Bytes.changed(withCode(0, 16), CODE - 1, 24);
        bytes.faulty("an instruction that the buffer ends in", CODE + 2, cut);
        cut = Bytes.changed(withCode(0, 170, 0), CODE - 1, 24);
        bytes.faulty("a padding that the buffer ends in", CODE + 3, cut);
    }

    private static void firstFault() {
        check.sentence("A unit that is not so is FAULTY at the offset of the first byte, read from the left, that cannot be as it is");
        bytes.faulty("padding, then an instruction", CODE + 1, withCode(170, 16, 0, 0, 99));
        bytes.faulty("padding, then the count", CODE + 3, withCode(170, 0, 0, 1, 99));
        bytes.faulty("a count, then an instruction", CODE + 4, withCode(170, 0, 0, 0, 16, 0, 99));
        bytes.faulty("a way, then an instruction", CODE + 5, withCode(170, 0, 0, 0, 1, 25, 0, 99));
        bytes.faulty("two ways", CODE + 5, withCode(170, 0, 0, 0, 2, 99, 98));
        bytes.faulty("a wide instruction, then another", CODE + 1, withCode(196, 16, 0, 99));
        bytes.faulty("a number, then an instruction", CODE + 1, withCode(187, 0, 99));
        bytes.faulty("a number, then a missing byte", CODE + 1, withCode(187, 0, 16));
        bytes.faulty("a number, then a byte behind the unit", CODE + 1, Bytes.join(withCode(187, 0), 0));
        bytes.faulty("the first of two codes", CODE, Bytes.changed(followed(0), CODE, 99));
        bytes.faulty("a way to a place that is no instruction's", CODE + 6, withCode(170, 0, 0, 0, 1, 3, 99));
    }
}
