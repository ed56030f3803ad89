/** Promises 2 and 3. */
final class BufferTest {
    private static final Check check = new Check();

    public static void main(String[] args) {
        refusals();
        limit();
        order();
        check.end();
    }

    private static void refusals() {
        PackageRules x = new PackageRules();
        for (int n : new int[] {0, 5, -1, -4, Integer.MIN_VALUE, Integer.MAX_VALUE}) {
            check.due("put(1, " + n + ")", x.put(1, n), false);
        }
        check.due("bytes() after refusals", x.bytes(), 0);
    }

    private static void limit() {
        PackageRules x = new PackageRules();
        int sum = 0;
        for (int i = 0; i < 29; i++) {
            check.due("put(-1, 4)", x.put(-1, 4), true);
            sum += 4;
            check.due("bytes()", x.bytes(), sum);
        }
        check.due("put(0, 1) to 117", x.put(0, 1), true);
        check.due("put(0, 4) to 121", x.put(0, 4), false);
        check.due("bytes() after that", x.bytes(), 117);
        check.due("put(0, 3) to 120", x.put(0, 3), true);
        check.due("bytes() when full", x.bytes(), 120);
        for (int n = 1; n <= 4; n++) {
            check.due("put(0, " + n + ") when full", x.put(0, n), false);
        }
        check.due("bytes() when full, again", x.bytes(), 120);
        x.load();
        check.due("bytes() after a faulty load", x.bytes(), 0);
        check.due("put after a faulty load", x.put(1, 2), true);
        check.due("bytes() after that", x.bytes(), 2);
    }

    /** The bytes' order is seen by what is read: the unit of Qz, put in pieces of each length. */
    private static void order() {
        int[] unit = new UnitMaker("Qz").bytes();
        for (int n = 1; n <= 4; n++) {
            PackageRules x = new PackageRules();
            int at = 0;
            while (at < unit.length) {
                int piece = Math.min(n, unit.length - at);
                // What stands above the n lowest bytes must not matter.
                int word = 0x55AA33CC;
                for (int i = 0; i < piece; i++) {
                    word = word << 8 | unit[at + i];
                }
                check.due("put of " + piece, x.put(word, piece), true);
                at += piece;
            }
            check.due("bytes()", x.bytes(), unit.length);
            check.due("load()", x.load(), 0);
            check.due("name(0, 0)", x.name(0, 0), 'Q');
            check.due("name(0, 1)", x.name(0, 1), 'z');
        }
    }
}
