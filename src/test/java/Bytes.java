import java.util.Arrays;

/** Rows of bytes, and which of them are faulty units. */
final class Bytes {
    /** The constants of a unit; ten numbers, of each kind that there is. */
    static final int[] CONSTANTS = {
        197, 10,
        1, 1, 'A', // 1: the text A, a word
        7, 1, // 2: the class A
        1, 1, 'm', // 3: the text m, a word
        9, 2, 3, // 4: a field of A
        10, 2, 3, // 5: a method of A
        3, 255, 0, // 6 and 7: a span
        1, 3, 'a', '.', 'b', // 8: the text a.b, a name but no word
        7, 8, // 9: the class a.b
        1, 1, '.' // 10: a text that is no name
    };

    private final Check check;

    Bytes(Check check) {
        this.check = check;
    }

    static int[] join(int[] first, int... second) {
        int[] all = Arrays.copyOf(first, first.length + second.length);
        System.arraycopy(second, 0, all, first.length, second.length);
        return all;
    }

    static int[] text(String characters) {
        return join(new int[] {1, characters.length()}, characters.chars().toArray());
    }

    static int[] times(int count, int... bytes) {
        int[] all = {};
        for (int i = 0; i < count; i++) {
            all = join(all, bytes);
        }
        return all;
    }

    static int[] changed(int[] bytes, int offset, int value) {
        int[] other = bytes.clone();
        other[offset] = value;
        return other;
    }

    /** These bytes, loaded into a new object, are a unit that is not faulty. */
    void whole(String what, int... bytes) {
        PackageRules x = new PackageRules();
        check.due(what + " " + Arrays.toString(bytes), UnitMaker.load(x, bytes), 0);
        check.due(what + ": bytes()", x.bytes(), 0);
        check.due(what + ": classes()", x.classes(), 1);
    }

    /** These bytes, loaded into a new object, are a unit that is faulty at this offset. */
    void faulty(String what, int offset, int... bytes) {
        PackageRules x = new PackageRules();
        check.due(what + " " + Arrays.toString(bytes), UnitMaker.load(x, bytes), -1 - offset);
        check.due(what + ": bytes()", x.bytes(), 0);
        check.due(what + ": classes()", x.classes(), 0);
    }

    /** Of all bytes at the offset of a whole unit, these alone are right there. */
    void only(String what, int[] unit, int offset, int... right) {
        for (int value = 0; value < 256; value++) {
            int b = value;
            int[] bytes = changed(unit, offset, b);
            if (Arrays.stream(right).anyMatch(r -> r == b)) {
                whole(what + " " + b, bytes);
            } else {
                faulty(what + " " + b, offset, bytes);
            }
        }
    }

    /** All bytes are right at the offset of a whole unit. */
    void any(String what, int[] unit, int offset) {
        for (int b = 0; b < 256; b++) {
            whole(what + " " + b, changed(unit, offset, b));
        }
    }
}
