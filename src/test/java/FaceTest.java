import java.lang.reflect.Constructor;
import java.lang.reflect.Field;
import java.lang.reflect.Method;
import java.lang.reflect.Modifier;
import java.util.Arrays;
import java.util.Set;
import java.util.TreeSet;

/** The document's public face, and LANGUAGE.md's rules 1 and 5. */
final class FaceTest {
    private static final Check check = new Check();

    private static final String[] FACE = {
        "boolean put(int, int)", "int bytes()", "int load()", "boolean type(char)", "int pattern()",
        "int rule(int, int, int)", "int violations(int)", "int violation(int, int)", "int freeze(int)", "int classes()",
        "int name(int, int)", "int occurrences(int)", "int kind(int, int)", "int line(int, int)", "int named(int, int)",
        "int target(int, int)", "boolean circular(int)", "boolean fits(int, int)", "int slices(int)"
    };

    public static void main(String[] args) {
        Class<?> face = PackageRules.class;
        check.due("public and final", Modifier.isPublic(face.getModifiers()) && Modifier.isFinal(face.getModifiers()), true);
        Constructor<?>[] makers = face.getDeclaredConstructors();
        check.due("constructors", makers.length, 1);
        check.due("the constructor is public", Modifier.isPublic(makers[0].getModifiers()), true);
        check.due("its parameters", makers[0].getParameterCount(), 0);
        methods(face);
        fields(face);
        for (Class<?> inside : face.getDeclaredClasses()) {
            int m = inside.getModifiers();
            check.due(inside + " is static", Modifier.isStatic(m), true);
            check.due(inside + " is not public", Modifier.isPublic(m) || Modifier.isProtected(m), false);
            fields(inside);
        }
        check.end();
    }

    private static void methods(Class<?> face) {
        Set<String> open = new TreeSet<>();
        Set<String> openNames = new TreeSet<>();
        Set<String> hiddenNames = new TreeSet<>();
        for (Method m : face.getDeclaredMethods()) {
            if (Modifier.isPrivate(m.getModifiers())) {
                hiddenNames.add(m.getName());
            } else {
                check.due(m + " is public", Modifier.isPublic(m.getModifiers()), true);
                String kinds = Arrays.toString(m.getParameterTypes()).replace("[", "(").replace("]", ")");
                open.add(m.getReturnType() + " " + m.getName() + kinds);
                openNames.add(m.getName());
            }
        }
        Set<String> want = new TreeSet<>(Arrays.asList(FACE));
        check.due("the methods " + open, open.equals(want), true);
        hiddenNames.retainAll(openNames);
        check.due("private methods with public names " + hiddenNames, hiddenNames.isEmpty(), true);
    }

    private static void fields(Class<?> face) {
        for (Field f : face.getDeclaredFields()) {
            int m = f.getModifiers();
            if (face == PackageRules.class) {
                check.due(f + " is private", Modifier.isPrivate(m), true);
            }
            if (Modifier.isStatic(m)) {
                check.due(f + " is final", Modifier.isFinal(m), true);
            }
        }
    }
}
