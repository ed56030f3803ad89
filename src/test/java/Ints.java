import java.util.Arrays;

/** Ints for calls that must be refused: near all limits, near where a byte, a shift or 64 * c wraps around, and far out. */
final class Ints {
    private static final int[] ALL = {
        Integer.MIN_VALUE, Integer.MIN_VALUE + 1, -(1 << 30), -(1 << 26), -65536, -256, -255, -65, -64, -63, -33, -32, -31,
        -13, -12, -6, -5, -4, -3, -2, -1, 0, 1, 2, 3, 4, 5, 6, 7, 8, 9, 10, 11, 12, 13, 31, 32, 33, 51, 52, 53, 63, 64, 65,
        119, 120, 121, 255, 256, 257, 258, 259, 260, 65536, 65537, 1 << 26, (1 << 26) + 1, 1 << 30, Integer.MAX_VALUE - 1,
        Integer.MAX_VALUE
    };

    private Ints() { }

    /** Those that are not least .. most, and the two just outside. */
    static int[] outside(int least, int most) {
        int[] others = Arrays.stream(ALL).filter(i -> i < least || i > most).toArray();
        return Bytes.join(others, least - 1, most + 1);
    }

    /** Those that are no number of a thing, if there are so many things. */
    static int[] noNumberOf(int count) {
        return outside(0, count - 1);
    }
}
