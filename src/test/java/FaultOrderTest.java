import java.util.Arrays;

/** Of two faults in one unit, the one that is told: all pairs of wrong bytes, and each wrong byte with each missing one. */
final class FaultOrderTest {
    private static final Check check = new Check();

    /** Codes with instructions of all kinds: 18 bytes, and 10. */
    private static final int[] UNIT = Bytes.join(Bytes.CONSTANTS,
            2, 9, 3, 2, 9, 2, 2, 1, 3, 2,
            3, 7, 18, 170, 0, 0, 0, 2, 0, 17, 180, 4, 182, 5, 187, 2, 18, 10, 16, 9, 0,
            1, 7, 10, 196, 187, 0, 9, 25, 1, 192, 9, 193, 2);

    /**
     * What each byte of UNIT is: s in a constant, n a number in a constant, r of the rest, f any byte is right there,
     * w the higher byte of a number, which is at fault at the lower one. 255 is wrong at each of them but those with f.
     */
    private static final String MARKS = "ss" + "sss" + "sn" + "sss" + "snn" + "snn" + "sff" + "sssss" + "sn" + "sss"
            + "rr" + "rrrr" + "rrr" + "r"
            + "rfr" + "rrrrrrr" + "rr" + "rr" + "rr" + "rr" + "rf" + "r"
            + "rfr" + "rrwr" + "rf" + "rr" + "rr";

    /** The unit before has a class at each number, so that a number that is left from it would be right. */
    private static final int[] BEFORE = Bytes.join(
            Bytes.join(new int[] {197, 24, 1, 1, 'q'}, Bytes.times(23, 7, 1)), 2, 3, 0, 0, 0);

    public static void main(String[] args) {
        check.due("the length of the unit", UNIT.length, MARKS.length());
        tell(UNIT, 1, "the unit as it is");
        for (int a = 0; a < UNIT.length; a++) {
            if (MARKS.charAt(a) != 'f') {
                withOther(a);
            }
        }
        check.end();
    }

    private static void withOther(int a) {
        int[] wrong = Bytes.changed(UNIT, a, 255);
        check.sentence("A unit that is not so is FAULTY at the offset of the first byte, read from the left, that cannot be as it is");
        tell(wrong, -1 - faultOf(a), "wrong at " + a);
        check.sentence("The numbers in constants are looked at only when all constants have been read, in the order in which they lie.");
        for (int b = a + 1; b < UNIT.length; b++) {
            if (MARKS.charAt(b) != 'f') {
                boolean first = stepOf(a) <= stepOf(b);
                tell(Bytes.changed(wrong, b, 255), -1 - faultOf(first ? a : b), "wrong at " + a + " and " + b);
            }
        }
        for (int end = a + 1; end < UNIT.length; end++) {
            boolean first = stepOf(a) <= (end < Bytes.CONSTANTS.length ? 0 : 2);
            tell(Arrays.copyOf(wrong, end), first ? -1 - faultOf(a) : -1 - end, "wrong at " + a + ", cut at " + end);
        }
    }

    private static int faultOf(int offset) {
        return MARKS.charAt(offset) == 'w' ? offset + 1 : offset;
    }

    /** The constants are read first, then their numbers are looked at, then the rest is read. */
    private static int stepOf(int offset) {
        switch (MARKS.charAt(offset)) {
            case 's':
                return 0;
            case 'n':
                return 1;
            default:
                return 2;
        }
    }

    private static void tell(int[] unit, int due, String what) {
        PackageRules x = new PackageRules();
        check.due(what + ": the unit before", UnitMaker.load(x, BEFORE), 0);
        check.due(what, UnitMaker.load(x, unit), due);
        check.due(what + ": bytes()", x.bytes(), 0);
        check.due(what + ": classes()", x.classes(), due == 1 ? 2 : 1);
        check.due(what + ": occurrences(0)", x.occurrences(0), 1);
    }
}
