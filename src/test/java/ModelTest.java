import java.util.Arrays;
import java.util.Random;

/** Runs of at most 512 random calls, whose answers must be those of PlainModel; the same runs each time. */
final class ModelTest {
    private static final int RUNS = 4000;
    private static final int CALLS = 512;
    private static final Check check = new Check();
    private static final String[] SMALL = {"a.A", "a.B", "b.A", "b.B", "C", "D"};
    private static final String[] LARGE = {
        "a.A", "a.B", "b.A", "b.B", "c.A", "C", "D", "a.b.A", "a.b.B", "a.c.A", "b.c.A", "b.c.d.E", "ab.C", "aa", "c.B"
    };
    private static final String[] WORDS = {"w", "v", "long"};
    private static final String[] USEFUL = {"a.*", "b.*", "a.#", "#", "*", "*.A", "#B", "b.#", "C", "#.*.*", "c#"};
    private static final String[] PIECES = {"a", "b", "A", ".", ".", "*", "*", "#", "#", "c", "B", "C"};

    private final Random random;
    private final PackageRules x = new PackageRules();
    private final PlainModel model = new PlainModel();
    private final String[] names;
    private final int run;
    private int calls = 0;

    private ModelTest(int run) {
        this.run = run;
        random = new Random(run);
        names = run % 2 == 0 ? SMALL : LARGE;
    }

    public static void main(String[] args) {
        for (int run = 0; run < RUNS; run++) {
            new ModelTest(run).calls();
        }
        check.end();
    }

    private void calls() {
        if (run % 5 != 0) {
            usefulRules();
        }
        while (calls < CALLS) {
            int choice = random.nextInt(24);
            if (choice < 8) {
                put(unit());
                load();
            } else if (choice == 8) {
                patternOrRule();
            } else if (choice == 9) {
                oddCall();
            } else if (choice < 12) {
                sweepClass(random.nextInt(model.classes() + 1));
            } else if (choice < 16) {
                sweepRule(random.nextInt(6));
            } else if (choice == 16) {
                int r = random.nextInt(6);
                due("freeze(" + r + ")", x.freeze(r), model.freeze(r));
            } else if (choice < 20) {
                askClass(number(13), number(10));
            } else {
                askRule(number(7));
            }
        }
    }

    /** Patterns and rules that are apt to have violations, so that not all depends on luck. */
    private void usefulRules() {
        for (int p = 0; p < 3; p++) {
            for (char c : USEFUL[random.nextInt(USEFUL.length)].toCharArray()) {
                due("type", x.type(c), model.type(c));
            }
            due("pattern()", x.pattern(), model.pattern());
        }
        for (int r = 0; r < 5; r++) {
            int kind = r < 4 ? r : 2;
            int p = kind == 3 ? 1 + random.nextInt(2) : random.nextInt(3);
            int q = kind == 3 ? 0 : random.nextInt(3);
            due("rule(" + kind + ", " + p + ", " + q + ")", x.rule(kind, p, q), model.rule(kind, p, q));
        }
    }

    private void sweepClass(int c) {
        due("occurrences(" + c + ")", x.occurrences(c), model.occurrences(c));
        due("circular(" + c + ")", x.circular(c), model.circular(c));
        for (int i = 0; i <= model.occurrences(c); i++) {
            String where = "(" + c + ", " + i + ")";
            due("kind" + where, x.kind(c, i), model.kind(c, i));
            due("line" + where, x.line(c, i), model.line(c, i));
            due("named" + where, x.named(c, i), model.named(c, i));
            due("target" + where, x.target(c, i), model.target(c, i));
        }
    }

    private void sweepRule(int r) {
        due("violations(" + r + ")", x.violations(r), model.violations(r));
        for (int i = 0; i <= model.violations(r); i++) {
            due("violation(" + r + ", " + i + ")", x.violation(r, i), model.violation(r, i));
        }
    }

    /** What is answered behind the last call that the document promises is free. */
    private void due(String call, long got, long want) {
        calls++;
        if (calls <= CALLS) {
            check.due("run " + run + ", call " + calls + ": " + call, got, want);
        }
    }

    private void due(String call, boolean got, boolean want) {
        due(call, got ? 1 : 0, want ? 1 : 0);
    }

    private String name() {
        return names[random.nextInt(names.length)];
    }

    private String word() {
        return WORDS[random.nextInt(WORDS.length)];
    }

    private int number(int most) {
        int odd = random.nextInt(60);
        return odd == 0 ? -1 : odd == 1 ? random.nextInt() : random.nextInt(most);
    }

    private int[] unit() {
        UnitMaker maker = new UnitMaker(name());
        if (random.nextInt(3) == 0) {
            maker.extending(name());
        }
        int interfaces = Math.max(0, random.nextInt(5) - 2);
        for (int i = 0; i < interfaces; i++) {
            maker.with(name());
        }
        int fields = Math.max(0, random.nextInt(4) - 1);
        for (int i = 0; i < fields; i++) {
            maker.field(word());
        }
        int methods = random.nextInt(3);
        for (int i = 0; i < methods; i++) {
            maker.method(word(), random.nextInt(256));
            int length = random.nextInt(6);
            for (int k = 0; k < length; k++) {
                instruction(maker);
            }
        }
        int[] bytes = maker.bytes();
        if (bytes.length > 120) {
            return Arrays.copyOf(bytes, 120);
        }
        return random.nextInt(4) == 0 ? spoilt(bytes) : bytes;
    }

    private void instruction(UnitMaker maker) {
        switch (random.nextInt(10)) {
            case 0, 1 -> maker.get(name(), word());
            case 2 -> maker.set(name(), word());
            case 3, 4 -> maker.call(name(), word());
            case 5 -> maker.use(UnitMaker.NEW, name());
            case 6 -> maker.use(random.nextBoolean() ? UnitMaker.CAST : UnitMaker.TEST, name());
            case 7 -> maker.use(UnitMaker.CONST, name());
            case 8 -> maker.step(random.nextInt(256));
            default -> oddInstruction(maker);
        }
    }

    private void oddInstruction(UnitMaker maker) {
        switch (random.nextInt(4)) {
            case 0 -> maker.raw(196, 182, 0, maker.memberNumber(10, name(), word()));
            case 1 -> maker.raw(UnitMaker.CONST, maker.textNumber(name()));
            case 2 -> maker.raw(170, 0, 0, 0, 1, 0);
            default -> maker.raw(0, 16, random.nextInt(256));
        }
    }

    private int[] spoilt(int[] bytes) {
        int[] other = bytes.clone();
        int k = random.nextInt(bytes.length);
        switch (random.nextInt(5)) {
            case 0 -> other[k] = random.nextInt(256);
            case 1 -> other[k] = random.nextInt(12);
            case 2 -> other[k] = other[k] + 1 & 255;
            case 3 -> other = Arrays.copyOf(bytes, k);
            default -> other = Arrays.copyOf(bytes, Math.min(120, bytes.length + 1));
        }
        return other;
    }

    private void put(int[] bytes) {
        int k = 0;
        while (k < bytes.length) {
            int n = Math.min(4, bytes.length - k);
            int word = random.nextInt();
            for (int i = 0; i < n; i++) {
                word = word << 8 | bytes[k + i];
            }
            due("put", x.put(word, n), model.put(word, n));
            k += n;
        }
    }

    private void load() {
        due("load()", x.load(), model.load());
        due("classes()", x.classes(), model.classes());
        due("bytes()", x.bytes(), model.bytes());
    }

    private void patternOrRule() {
        if (random.nextBoolean()) {
            int length = 1 + random.nextInt(5);
            for (int i = 0; i < length; i++) {
                char c = PIECES[random.nextInt(PIECES.length)].charAt(0);
                due("type", x.type(c), model.type(c));
            }
            due("pattern()", x.pattern(), model.pattern());
        } else {
            int kind = number(4);
            int p = kind == 3 ? number(4) : number(6);
            int q = kind == 3 ? 0 : number(6);
            due("rule(" + kind + ", " + p + ", " + q + ")", x.rule(kind, p, q), model.rule(kind, p, q));
        }
    }

    private void oddCall() {
        int a = number(7);
        int b = number(7);
        switch (random.nextInt(5)) {
            case 0 -> due("put(" + a + ", " + b + ")", x.put(a, b), model.put(a, b));
            case 1 -> load();
            case 2 -> due("type(" + (char) a + ")", x.type((char) a), model.type((char) a));
            case 3 -> due("pattern()", x.pattern(), model.pattern());
            default -> due("rule(3, " + a + ", " + b + ")", x.rule(3, a, b), model.rule(3, a, b));
        }
    }

    private void askClass(int c, int i) {
        String where = "(" + c + ", " + i + ")";
        switch (random.nextInt(8)) {
            case 0 -> due("name" + where, x.name(c, i), model.name(c, i));
            case 1 -> due("occurrences(" + c + ")", x.occurrences(c), model.occurrences(c));
            case 2 -> due("kind" + where, x.kind(c, i), model.kind(c, i));
            case 3 -> due("line" + where, x.line(c, i), model.line(c, i));
            case 4 -> due("named" + where, x.named(c, i), model.named(c, i));
            case 5 -> due("circular(" + c + ")", x.circular(c), model.circular(c));
            case 6 -> due("slices(" + i + ")", x.slices(i), model.slices(i));
            default -> due("target" + where, x.target(c, i), model.target(c, i));
        }
    }

    private void askRule(int r) {
        switch (random.nextInt(6)) {
            case 0 -> due("freeze(" + r + ")", x.freeze(r), model.freeze(r));
            case 1 -> {
                int c = number(12);
                due("fits(" + r + ", " + c + ")", x.fits(r, c), model.fits(r, c));
            }
            case 2, 3 -> due("violations(" + r + ")", x.violations(r), model.violations(r));
            default -> {
                int i = number(6);
                due("violation(" + r + ", " + i + ")", x.violation(r, i), model.violation(r, i));
            }
        }
    }
}
