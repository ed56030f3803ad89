import java.util.ArrayList;
import java.util.List;

/** Makes the bytes of a unit; constants are added where they are first needed, and used again. */
final class UnitMaker {
    static final int GET = 180;
    static final int SET = 181;
    static final int CALL = 182;
    static final int NEW = 187;
    static final int CAST = 192;
    static final int TEST = 193;
    static final int CONST = 18;
    static final int STEP = 25;
    static final int WIDE = 196;

    private static final class Method {
        final int word;
        final int line;
        final List<Integer> code = new ArrayList<>();

        Method(int word, int line) {
            this.word = word;
            this.line = line;
        }
    }

    private final List<List<Integer>> constants = new ArrayList<>();
    private final int self;
    private int parent = 0;
    private final List<Integer> interfaces = new ArrayList<>();
    private final List<Integer> fields = new ArrayList<>();
    private final List<Method> methods = new ArrayList<>();

    UnitMaker(String name) {
        self = classNumber(name);
    }

    private int constant(List<Integer> bytes) {
        int known = constants.indexOf(bytes);
        if (known < 0) {
            known = constants.size();
            constants.add(bytes);
        }
        return known + 1;
    }

    int textNumber(String text) {
        List<Integer> bytes = new ArrayList<>(List.of(1, text.length()));
        for (char c : text.toCharArray()) {
            bytes.add((int) c);
        }
        return constant(bytes);
    }

    int classNumber(String name) {
        return constant(List.of(7, textNumber(name)));
    }

    int memberNumber(int tag, String owner, String word) {
        return constant(List.of(tag, classNumber(owner), textNumber(word)));
    }

    UnitMaker extending(String name) {
        parent = classNumber(name);
        return this;
    }

    UnitMaker with(String... names) {
        for (String name : names) {
            interfaces.add(classNumber(name));
        }
        return this;
    }

    UnitMaker field(String word) {
        fields.add(textNumber(word));
        return this;
    }

    UnitMaker method(String word, int line) {
        methods.add(new Method(textNumber(word), line));
        return this;
    }

    UnitMaker method(String word) {
        return method(word, 0);
    }

    /** Adds bytes as they are to the code of the last method. */
    UnitMaker raw(int... bytes) {
        for (int b : bytes) {
            methods.get(methods.size() - 1).code.add(b);
        }
        return this;
    }

    UnitMaker get(String owner, String word) {
        return raw(GET, memberNumber(9, owner, word));
    }

    UnitMaker set(String owner, String word) {
        return raw(SET, memberNumber(9, owner, word));
    }

    UnitMaker call(String owner, String word) {
        return raw(CALL, memberNumber(10, owner, word));
    }

    /** NEW, CAST, TEST or CONST of a class. */
    UnitMaker use(int instruction, String name) {
        return raw(instruction, classNumber(name));
    }

    UnitMaker step(int lines) {
        return raw(STEP, lines);
    }

    int[] bytes() {
        List<Integer> all = new ArrayList<>(List.of(197, constants.size()));
        constants.forEach(all::addAll);
        all.add(self);
        all.add(parent);
        all.add(interfaces.size());
        all.addAll(interfaces);
        all.add(fields.size());
        all.addAll(fields);
        all.add(methods.size());
        for (Method m : methods) {
            all.addAll(List.of(m.word, m.line, m.code.size()));
            all.addAll(m.code);
        }
        return all.stream().mapToInt(Integer::intValue).toArray();
    }

    int loadInto(PackageRules x) {
        return load(x, bytes());
    }

    static void put(PackageRules x, int... bytes) {
        int at = 0;
        while (at < bytes.length) {
            int n = Math.min(4, bytes.length - at);
            int word = 0;
            for (int i = 0; i < n; i++) {
                word = word << 8 | bytes[at + i];
            }
            if (!x.put(word, n)) {
                throw new IllegalStateException("a unit of " + bytes.length + " bytes does not fit");
            }
            at += n;
        }
    }

    static int load(PackageRules x, int... bytes) {
        put(x, bytes);
        return x.load();
    }

    static int pattern(PackageRules x, String text) {
        for (char c : text.toCharArray()) {
            x.type(c);
        }
        return x.pattern();
    }
}
