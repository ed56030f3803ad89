/** Promises 4, 11 and 12: what becomes of units that are read. */
final class LoadingTest {
    private static final Check check = new Check();

    public static void main(String[] args) {
        namesAndNumbers();
        replacement();
        room();
        check.end();
    }

    private static void spelt(PackageRules x, int c, String name) {
        for (int j = 0; j < name.length(); j++) {
            check.due("name(" + c + ", " + j + ")", x.name(c, j), name.charAt(j));
        }
        for (int j : new int[] {-1, name.length(), 10, 11, 64, Integer.MAX_VALUE, Integer.MIN_VALUE}) {
            check.due("name(" + c + ", " + j + ") of " + name, x.name(c, j), -1);
        }
    }

    private static void namesAndNumbers() {
        PackageRules x = new PackageRules();
        String[] names = {"a", "A", "a.A", "zZyYxXwWvV", "a.b.c.d.e", "q.abcdefgh"};
        for (int i = 0; i < names.length; i++) {
            check.due("load of " + names[i], new UnitMaker(names[i]).loadInto(x), i);
            check.due("classes()", x.classes(), i + 1);
        }
        for (int i = 0; i < names.length; i++) {
            spelt(x, i, names[i]);
        }
        for (int c : new int[] {-1, names.length, 12, Integer.MAX_VALUE, Integer.MIN_VALUE}) {
            check.due("name(" + c + ", 0)", x.name(c, 0), -1);
        }
        check.due("a faulty unit", UnitMaker.load(x, 197, 1, 1, 1, 'Q', 0), -6);
        check.due("classes() after it", x.classes(), names.length);
    }

    private static void replacement() {
        PackageRules x = new PackageRules();
        new UnitMaker("A").extending("B").field("f").method("m").use(UnitMaker.NEW, "C").loadInto(x);
        new UnitMaker("B").loadInto(x);
        check.due("A again", new UnitMaker("A").method("m", 3).use(UnitMaker.CAST, "B").loadInto(x), 0);
        check.due("classes()", x.classes(), 2);
        check.due("occurrences(0)", x.occurrences(0), 1);
        check.due("kind(0, 0)", x.kind(0, 0), 4);
        check.due("line(0, 0)", x.line(0, 0), 3);
        int[] unit = new UnitMaker("A").extending("B").with("B", "C").field("f").bytes();
        unit[unit.length - 1] = 5;
        check.due("A again, faulty", UnitMaker.load(x, unit), -unit.length);
        check.due("occurrences(0) as before", x.occurrences(0), 1);
        check.due("kind(0, 0) as before", x.kind(0, 0), 4);
    }

    private static void room() {
        PackageRules x = new PackageRules();
        for (int i = 0; i < 12; i++) {
            check.due("load", new UnitMaker("p." + (char) ('a' + i)).loadInto(x), i);
        }
        check.due("a thirteenth", new UnitMaker("q").extending("p.a").loadInto(x), -1000);
        check.due("bytes()", x.bytes(), 0);
        check.due("classes()", x.classes(), 12);
        check.due("a thirteenth, faulty", UnitMaker.load(x, 197, 0, 0), -3);
        check.due("the last one again", new UnitMaker("p.l").extending("p.a").loadInto(x), 11);
        check.due("occurrences(11)", x.occurrences(11), 1);
        check.due("a thirteenth again", new UnitMaker("p.m").loadInto(x), -1000);
        for (int i = 0; i < 12; i++) {
            spelt(x, i, "p." + (char) ('a' + i));
            check.due("occurrences", x.occurrences(i), i == 11 ? 1 : 0);
        }
        check.due("name(12, 0)", x.name(12, 0), -1);
    }
}
