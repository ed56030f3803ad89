import java.util.ArrayList;
import java.util.HashSet;
import java.util.List;
import java.util.Map;
import java.util.Objects;
import java.util.Set;
import java.util.TreeMap;
import java.util.regex.Pattern;

/** The document written down a second time, as near to its words as the Java library allows: what ModelTest compares with. */
final class PlainModel {
    private static final class Fault extends RuntimeException {
        private static final long serialVersionUID = 1;
        final int offset;

        Fault(int offset) {
            this.offset = offset;
        }
    }

    private record Constant(int tag, String text, int offset) { }

    private record Occurrence(int kind, int line, String name, String word) { }

    private record Known(int c, int kind, String name, String word) { }

    private record Found(int c, int i) { }

    private static final class Loaded {
        String name;
        String parent;
        final List<String> interfaces = new ArrayList<>();
        final Set<String> fields = new HashSet<>();
        final Set<String> methods = new HashSet<>();
        final List<Occurrence> occurrences = new ArrayList<>();
    }

    private static final class Law {
        int kind;
        int p;
        int q;
        List<Known> list = new ArrayList<>();
    }

    private final List<Integer> buffer = new ArrayList<>();
    private final List<Loaded> loaded = new ArrayList<>();
    private final StringBuilder typed = new StringBuilder();
    private final List<String> patterns = new ArrayList<>();
    private final List<Law> laws = new ArrayList<>();

    private int at;
    private Map<Integer, Constant> constants;

    boolean put(int word, int n) {
        if (n < 1 || n > 4 || buffer.size() + n > 120) {
            return false;
        }
        for (int i = n; i > 0; i--) {
            buffer.add(word >> 8 * (i - 1) & 0xFF);
        }
        return true;
    }

    int bytes() {
        return buffer.size();
    }

    int load() {
        try {
            Loaded unit = unit();
            int c = number(unit.name);
            if (c >= 0) {
                loaded.set(c, unit);
                return c;
            }
            if (loaded.size() == 12) {
                return -1000;
            }
            loaded.add(unit);
            return loaded.size() - 1;
        } catch (Fault fault) {
            return -1 - fault.offset;
        } finally {
            buffer.clear();
        }
    }

    private int next() {
        if (at >= buffer.size()) {
            throw new Fault(at);
        }
        return buffer.get(at++);
    }

    private void must(boolean right) {
        if (!right) {
            throw new Fault(at - 1);
        }
    }

    private int upTo(int most) {
        int b = next();
        must(b <= most);
        return b;
    }

    private static boolean isWord(String text) {
        return text.matches("[A-Za-z]+");
    }

    private static boolean isName(String text) {
        return text.matches("[A-Za-z]+(\\.[A-Za-z]+)*");
    }

    private boolean is(int number, int tag) {
        return constants.containsKey(number) && constants.get(number).tag == tag;
    }

    private String className(int number) {
        must(is(number, 7));
        return constants.get(buffer.get(constants.get(number).offset)).text;
    }

    private String word(int number) {
        must(is(number, 1) && isWord(constants.get(number).text));
        return constants.get(number).text;
    }

    private void readConstants() {
        int n = upTo(24);
        constants = new TreeMap<>();
        for (int k = 1; k <= n; k++) {
            int tag = next();
            must(List.of(1, 3, 7, 9, 10).contains(tag));
            must(tag != 3 || k < n);
            StringBuilder text = new StringBuilder();
            int offset = at;
            if (tag == 1) {
                int length = upTo(10);
                must(length > 0);
                for (int i = 0; i < length; i++) {
                    char c = (char) next();
                    must(String.valueOf(c).matches("[A-Za-z.]"));
                    text.append(c);
                }
            } else {
                next();
                if (tag != 7) {
                    next();
                }
            }
            constants.put(k, new Constant(tag, text.toString(), offset));
            if (tag == 3) {
                k++;
            }
        }
        int end = at;
        for (Constant constant : constants.values()) {
            at = constant.offset;
            if (constant.tag == 7) {
                int number = next();
                must(is(number, 1) && isName(constants.get(number).text));
            } else if (constant.tag >= 9) {
                must(is(next(), 7));
                word(next());
            }
        }
        at = end;
    }

    private Loaded unit() {
        at = 0;
        must197();
        readConstants();
        Loaded unit = new Loaded();
        unit.name = className(next());
        int parent = next();
        if (parent != 0) {
            unit.parent = className(parent);
            unit.occurrences.add(new Occurrence(7, 0, unit.parent, null));
        }
        int interfaces = upTo(3);
        for (int i = 0; i < interfaces; i++) {
            unit.interfaces.add(className(next()));
            unit.occurrences.add(new Occurrence(8, 0, unit.interfaces.get(i), null));
        }
        int fields = upTo(4);
        for (int i = 0; i < fields; i++) {
            unit.fields.add(word(next()));
        }
        int methods = upTo(4);
        for (int i = 0; i < methods; i++) {
            unit.methods.add(word(next()));
            int line = next();
            int length = upTo(24);
            code(unit, line, at, length);
        }
        if (at < buffer.size()) {
            throw new Fault(at);
        }
        return unit;
    }

    private void must197() {
        int b = next();
        must(b == 197);
    }

    private void code(Loaded unit, int firstLine, int start, int length) {
        int line = firstLine;
        while (at < start + length) {
            int instruction = codeByte(start, length);
            switch (instruction) {
                case 0 -> { }
                case 16 -> codeByte(start, length);
                case 25 -> line += codeByte(start, length);
                case 170 -> jump(start, length);
                case 196 -> {
                    int wide = codeByte(start, length);
                    must(wide == 180 || wide == 181 || wide == 182 || wide == 187);
                    int high = codeByte(start, length);
                    int low = codeByte(start, length);
                    unit.occurrences.add(occurrence(wide, line, 256 * high + low));
                }
                default -> {
                    must(List.of(18, 180, 181, 182, 187, 192, 193).contains(instruction));
                    int number = codeByte(start, length);
                    if (instruction != 18 || !is(number, 1)) {
                        unit.occurrences.add(occurrence(instruction, line, number));
                    }
                }
            }
        }
    }

    private int codeByte(int start, int length) {
        if (at >= start + length) {
            throw new Fault(at);
        }
        return next();
    }

    private void jump(int start, int length) {
        while ((at - start) % 4 != 0) {
            int zero = codeByte(start, length);
            must(zero == 0);
        }
        int count = codeByte(start, length);
        must(count <= 4);
        for (int i = 0; i < count; i++) {
            int place = codeByte(start, length);
            must(place < length);
        }
    }

    private Occurrence occurrence(int instruction, int line, int number) {
        int kind = List.of(180, 181, 182, 187, 192, 193, 18).indexOf(instruction);
        if (kind > 2) {
            return new Occurrence(kind, line, className(number), null);
        }
        must(is(number, kind == 2 ? 10 : 9));
        int offset = constants.get(number).offset;
        return new Occurrence(kind, line, className(buffer.get(offset)), word(buffer.get(offset + 1)));
    }

    boolean type(char c) {
        if (!String.valueOf(c).matches("[A-Za-z.*#]") || typed.length() == 10) {
            return false;
        }
        typed.append(c);
        return true;
    }

    int pattern() {
        if (typed.length() == 0 || patterns.size() == 6) {
            return -1;
        }
        patterns.add(typed.toString());
        typed.setLength(0);
        return patterns.size() - 1;
    }

    private boolean isPattern(int p) {
        return p >= 0 && p < patterns.size();
    }

    int rule(int kind, int p, int q) {
        boolean right = kind == 3 ? (p == 1 || p == 2) && q == 0
                : kind >= 0 && kind <= 2 && isPattern(p) && isPattern(q);
        if (!right || laws.size() == 6) {
            return -1;
        }
        Law law = new Law();
        law.kind = kind;
        law.p = p;
        law.q = q;
        laws.add(law);
        return laws.size() - 1;
    }

    private boolean fits(int p, String name) {
        String form = patterns.get(p).replace(".", "\\.").replace("*", "[A-Za-z]*").replace("#", "[A-Za-z.]*");
        return Pattern.matches(form, name);
    }

    private List<Found> all(Law law) {
        List<Found> found = new ArrayList<>();
        for (int c = 0; c < loaded.size(); c++) {
            Loaded in = loaded.get(c);
            if (law.kind == 3) {
                String slice = slice(in.name, law.p);
                if (slice != null && firstOf(slice, law.p) == c && comesBack(slice, law.p)) {
                    found.add(new Found(c, 63));
                }
                continue;
            }
            for (int i = 0; i < in.occurrences.size(); i++) {
                if (violates(law, c, in.occurrences.get(i), target(c, i))) {
                    found.add(new Found(c, i));
                }
            }
        }
        return found;
    }

    private boolean violates(Law law, int c, Occurrence o, int target) {
        String own = loaded.get(c).name;
        return switch (law.kind) {
            case 0 -> fits(law.p, own) && fits(law.q, o.name) && !o.name.equals(own);
            case 1 -> !fits(law.p, own) && !fits(law.q, own) && fits(law.p, o.name);
            default -> !fits(law.q, own) && target >= 0 && target != c && fits(law.p, loaded.get(target).name);
        };
    }

    private Known known(Found f) {
        Occurrence o = loaded.get(f.c).occurrences.get(f.i);
        return new Known(f.c, o.kind, o.name, o.word);
    }

    private List<Found> fresh(Law law) {
        List<Found> found = all(law);
        if (law.kind != 3) {
            List<Known> left = new ArrayList<>(law.list);
            found.removeIf(f -> left.remove(known(f)));
        }
        return found;
    }

    private boolean isLaw(int r) {
        return r >= 0 && r < laws.size();
    }

    int violations(int r) {
        return isLaw(r) ? fresh(laws.get(r)).size() : -1;
    }

    int violation(int r, int i) {
        if (!isLaw(r) || i < 0 || i >= fresh(laws.get(r)).size()) {
            return -1;
        }
        Found f = fresh(laws.get(r)).get(i);
        return 64 * f.c + f.i;
    }

    int freeze(int r) {
        if (!isLaw(r) || laws.get(r).kind == 3 || all(laws.get(r)).size() > 8) {
            return -1;
        }
        laws.get(r).list = all(laws.get(r)).stream().map(this::known).toList();
        return laws.get(r).list.size();
    }

    int classes() {
        return loaded.size();
    }

    private int number(String name) {
        for (int c = 0; c < loaded.size(); c++) {
            if (Objects.equals(loaded.get(c).name, name)) {
                return c;
            }
        }
        return -1;
    }

    private boolean isClass(int c) {
        return c >= 0 && c < loaded.size();
    }

    private Occurrence at(int c, int i) {
        boolean there = isClass(c) && i >= 0 && i < loaded.get(c).occurrences.size();
        return there ? loaded.get(c).occurrences.get(i) : null;
    }

    int name(int c, int j) {
        return isClass(c) && j >= 0 && j < loaded.get(c).name.length() ? loaded.get(c).name.charAt(j) : -1;
    }

    int occurrences(int c) {
        return isClass(c) ? loaded.get(c).occurrences.size() : -1;
    }

    int kind(int c, int i) {
        return at(c, i) == null ? -1 : at(c, i).kind;
    }

    int line(int c, int i) {
        return at(c, i) == null ? -1 : at(c, i).line;
    }

    int named(int c, int i) {
        return at(c, i) == null ? -1 : number(at(c, i).name);
    }

    private Set<Integer> parents(int c) {
        Set<Integer> parents = new HashSet<>();
        parents.add(number(loaded.get(c).parent));
        loaded.get(c).interfaces.forEach(i -> parents.add(number(i)));
        parents.remove(-1);
        return parents;
    }

    private Set<Integer> ancestors(int c) {
        Set<Integer> all = new HashSet<>();
        List<Integer> open = new ArrayList<>(parents(c));
        while (!open.isEmpty()) {
            int a = open.remove(0);
            if (all.add(a)) {
                open.addAll(parents(a));
            }
        }
        return all;
    }

    boolean circular(int c) {
        return isClass(c) && (ancestors(c).contains(c) || ancestors(c).stream().anyMatch(a -> ancestors(a).contains(a)));
    }

    int target(int c, int i) {
        Occurrence o = at(c, i);
        if (o == null || o.kind > 2 || number(o.name) < 0 || circular(number(o.name))) {
            return -1;
        }
        return o.kind == 2 ? method(number(o.name), o.word) : field(number(o.name), o.word);
    }

    private int field(int c, String w) {
        if (c < 0 || loaded.get(c).fields.contains(w)) {
            return c;
        }
        for (String i : loaded.get(c).interfaces) {
            if (field(number(i), w) >= 0) {
                return field(number(i), w);
            }
        }
        return field(number(loaded.get(c).parent), w);
    }

    private int method(int c, String w) {
        List<Integer> chain = new ArrayList<>();
        for (int s = c; s >= 0; s = number(loaded.get(s).parent)) {
            chain.add(s);
        }
        for (int s : chain) {
            if (loaded.get(s).methods.contains(w)) {
                return s;
            }
        }
        for (int s : chain) {
            for (String i : loaded.get(s).interfaces) {
                if (face(number(i), w) >= 0) {
                    return face(number(i), w);
                }
            }
        }
        return -1;
    }

    private int face(int i, String w) {
        if (i < 0 || loaded.get(i).methods.contains(w)) {
            return i;
        }
        for (String j : loaded.get(i).interfaces) {
            if (face(number(j), w) >= 0) {
                return face(number(j), w);
            }
        }
        return -1;
    }

    boolean fits(int p, int c) {
        return isPattern(p) && isClass(c) && fits(p, loaded.get(c).name);
    }

    private static String slice(String name, int d) {
        String[] words = name.split("\\.");
        return words.length > d ? String.join(".", List.of(words).subList(0, d)) : null;
    }

    private int firstOf(String slice, int d) {
        int c = 0;
        while (!slice.equals(slice(loaded.get(c).name, d))) {
            c++;
        }
        return c;
    }

    private Set<String> ways(String slice, int d) {
        Set<String> to = new HashSet<>();
        for (Loaded in : loaded) {
            if (slice.equals(slice(in.name, d))) {
                in.occurrences.stream().filter(o -> number(o.name) >= 0).forEach(o -> to.add(slice(o.name, d)));
            }
        }
        to.remove(null);
        to.remove(slice);
        return to;
    }

    private boolean comesBack(String slice, int d) {
        Set<String> been = new HashSet<>();
        List<String> open = new ArrayList<>(ways(slice, d));
        while (!open.isEmpty()) {
            String s = open.remove(0);
            if (been.add(s)) {
                open.addAll(ways(s, d));
            }
        }
        return been.contains(slice);
    }

    int slices(int d) {
        if (d != 1 && d != 2) {
            return -1;
        }
        Set<String> all = new HashSet<>();
        loaded.forEach(in -> all.add(slice(in.name, d)));
        all.remove(null);
        return all.size();
    }
}
