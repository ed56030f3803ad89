import java.util.Arrays;
import java.util.List;
import java.util.function.Supplier;

/** Of two objects that are made alike, one has refused calls besides: nothing may show which one. */
final class RefusalTest {
    private static final Check check = new Check();

    private interface Call {
        /** The answer, false being 0. */
        int on(PackageRules x);
    }

    private record Refused(String call, int due, Call body) { }

    public static void main(String[] args) {
        check.sentence("A call that is refused (-1 or false) changes nothing.");
        for (int wrong : new int[] {-1, 0, 7, Integer.MIN_VALUE, Integer.MAX_VALUE}) {
            compare("empty", Scenes::empty, anywhere(wrong));
            compare("empty", Scenes::empty, inEmpty(wrong));
        }
        for (int wrong : new int[] {-1, 12, 64, Integer.MIN_VALUE, Integer.MAX_VALUE}) {
            compare("some", Scenes::some, anywhere(wrong));
            compare("some", Scenes::some, withoutNumber(wrong));
            compare("family", Scenes::family, anywhere(wrong));
            compare("family", Scenes::family, withoutNumber(wrong));
            compare("full", Scenes::full, anywhere(wrong));
            compare("full", Scenes::full, withoutNumber(wrong));
        }
        compare("some", Scenes::some, inSome());
        compare("full", Scenes::full, inFull());
        check.sentence("(in both cases nothing else changes).");
        loads();
        check.end();
    }

    private static int asInt(boolean answer) {
        return answer ? 1 : 0;
    }

    /** Each call by itself, and all of them one behind the other, twice. */
    private static void compare(String scene, Supplier<PackageRules> made, List<Refused> calls) {
        List<String> want = Scenes.look(made.get());
        PackageRules all = made.get();
        for (Refused refused : calls) {
            PackageRules x = made.get();
            check.due(scene + ": " + refused.call, refused.body.on(x), refused.due);
            same(scene + " behind " + refused.call, want, Scenes.look(x));
            check.due(scene + ": " + refused.call, refused.body.on(all), refused.due);
            check.due(scene + ": " + refused.call + " again", refused.body.on(all), refused.due);
        }
        same(scene + " behind all of " + calls.get(0).call + " ..", want, Scenes.look(all));
    }

    private static void same(String what, List<String> want, List<String> got) {
        check.due(what + ": how many answers", got.size(), want.size());
        for (int i = 0; i < Math.min(got.size(), want.size()); i++) {
            boolean alike = got.get(i).equals(want.get(i));
            check.due(what + ": " + got.get(i) + " as " + want.get(i), alike, true);
        }
    }

    /** Refused whatever there is; the number is none of 1 .. 4. */
    private static List<Refused> anywhere(int wrong) {
        return List.of(
                new Refused("put(-1, " + wrong + ")", 0, x -> asInt(x.put(-1, wrong))),
                new Refused("type('0')", 0, x -> asInt(x.type('0'))),
                new Refused("type(0)", 0, x -> asInt(x.type((char) 0))),
                new Refused("type(" + (wrong & 0xFFF0) + ")", 0, x -> asInt(x.type((char) (wrong & 0xFFF0)))),
                new Refused("rule(0, 0, " + wrong + ") or more", -1, x -> x.rule(0, 0, wrong == 0 ? 6 : wrong)),
                new Refused("rule(2, " + wrong + ", 0) or more", -1, x -> x.rule(2, wrong == 0 ? 6 : wrong, 0)),
                new Refused("rule(3, " + wrong + ", 0)", -1, x -> x.rule(3, wrong, 0)),
                new Refused("rule(3, 1, " + wrong + ") or more", -1, x -> x.rule(3, 1, wrong == 0 ? 1 : wrong)),
                new Refused("rule(" + wrong + ", 0, 0) or more", -1, x -> x.rule(wrong == 0 ? 4 : wrong, 0, 0)),
                new Refused("slices(" + wrong + ")", -1, x -> x.slices(wrong)));
    }

    private static List<Refused> inEmpty(int wrong) {
        return List.of(
                new Refused("pattern()", -1, PackageRules::pattern),
                new Refused("rule(0, 0, 0)", -1, x -> x.rule(0, 0, 0)),
                new Refused("rule(1, 0, 0)", -1, x -> x.rule(1, 0, 0)),
                new Refused("rule(2, 0, 0)", -1, x -> x.rule(2, 0, 0)),
                new Refused("violations(" + wrong + ")", -1, x -> x.violations(wrong)),
                new Refused("violation(" + wrong + ", 0)", -1, x -> x.violation(wrong, 0)),
                new Refused("freeze(" + wrong + ")", -1, x -> x.freeze(wrong)),
                new Refused("name(" + wrong + ", 0)", -1, x -> x.name(wrong, 0)),
                new Refused("occurrences(" + wrong + ")", -1, x -> x.occurrences(wrong)),
                new Refused("circular(" + wrong + ")", 0, x -> asInt(x.circular(wrong))));
    }

    /** Refused where there are no more than twelve of anything that has a number. */
    private static List<Refused> withoutNumber(int wrong) {
        return List.of(
                new Refused("violations(" + wrong + ")", -1, x -> x.violations(wrong)),
                new Refused("violation(" + wrong + ", 0)", -1, x -> x.violation(wrong, 0)),
                new Refused("violation(0, " + wrong + ")", -1, x -> x.violation(0, wrong)),
                new Refused("freeze(" + wrong + ")", -1, x -> x.freeze(wrong)),
                new Refused("name(" + wrong + ", 0)", -1, x -> x.name(wrong, 0)),
                new Refused("name(0, " + wrong + ")", -1, x -> x.name(0, wrong)),
                new Refused("occurrences(" + wrong + ")", -1, x -> x.occurrences(wrong)),
                new Refused("circular(" + wrong + ")", 0, x -> asInt(x.circular(wrong))));
    }

    private static List<Refused> inSome() {
        return List.of(
                new Refused("rule(0, 3, 0)", -1, x -> x.rule(0, 3, 0)),
                new Refused("rule(1, 0, 3)", -1, x -> x.rule(1, 0, 3)),
                new Refused("freeze of CYCLES", -1, x -> x.freeze(3)),
                new Refused("freeze(4)", -1, x -> x.freeze(4)),
                new Refused("kind(3, 0)", -1, x -> x.kind(3, 0)),
                new Refused("line(0, 4)", -1, x -> x.line(0, 4)),
                new Refused("named of what is not loaded", -1, x -> x.named(0, 3)),
                new Refused("target of no access", -1, x -> x.target(0, 0)),
                new Refused("fits(3, 0)", 0, x -> asInt(x.fits(3, 0))),
                new Refused("fits(0, 3)", 0, x -> asInt(x.fits(0, 3))));
    }

    private static List<Refused> inFull() {
        return List.of(
                new Refused("put(-1, 1)", 0, x -> asInt(x.put(-1, 1))),
                new Refused("put(-1, 4)", 0, x -> asInt(x.put(-1, 4))),
                new Refused("type('a')", 0, x -> asInt(x.type('a'))),
                new Refused("type('#')", 0, x -> asInt(x.type('#'))),
                new Refused("pattern()", -1, PackageRules::pattern),
                new Refused("rule(0, 0, 0)", -1, x -> x.rule(0, 0, 0)),
                new Refused("rule(3, 1, 0)", -1, x -> x.rule(3, 1, 0)),
                new Refused("freeze of twelve", -1, x -> x.freeze(0)),
                new Refused("freeze of CYCLES", -1, x -> x.freeze(3)),
                new Refused("freeze(6)", -1, x -> x.freeze(6)));
    }

    /** A load that is refused empties the buffer; but for that, an object is as if nothing had been put. */
    private static void loads() {
        int[] replacing = new UnitMaker("o.A").with("s.A", "s.B").field("f").field("w").method("w").call("s.B", "w").bytes();
        int[] other = new UnitMaker("x.X").extending("s.a").field("w").method("w").bytes();
        PackageRules plain = Scenes.some();
        plain.load();
        List<String> want = Scenes.look(plain);
        for (int length = 0; length < replacing.length; length++) {
            PackageRules x = Scenes.some();
            x.load();
            check.due("some: faulty", UnitMaker.load(x, Arrays.copyOf(replacing, length)), -1 - length);
            same("some behind a unit cut at " + length, want, Scenes.look(x));
        }
        for (String name : new String[] {"f.A", "f.B", "f.J", "g.C", "h.D"}) {
            faultyInFamily(new UnitMaker(name).extending("f.I").with("g.C").field("q").method("j").bytes());
        }
        PackageRules full = Scenes.full();
        full.load();
        want = Scenes.look(full);
        for (int length = 0; length <= other.length; length++) {
            PackageRules x = Scenes.full();
            x.load();
            int due = length == other.length ? -1000 : -1 - length;
            check.due("full: refused", UnitMaker.load(x, Arrays.copyOf(other, length)), due);
            same("full behind a unit cut at " + length, want, Scenes.look(x));
        }
    }

    private static void faultyInFamily(int[] unit) {
        List<String> want = Scenes.look(Scenes.family());
        for (int length = 0; length < unit.length; length++) {
            PackageRules x = Scenes.family();
            check.due("family: faulty", UnitMaker.load(x, Arrays.copyOf(unit, length)), -1 - length);
            same("family behind a unit cut at " + length, want, Scenes.look(x));
        }
        PackageRules x = Scenes.family();
        check.due("family: a byte behind", UnitMaker.load(x, Bytes.join(unit, 0)), -1 - unit.length);
        same("family behind a unit with a byte behind", want, Scenes.look(x));
    }
}
