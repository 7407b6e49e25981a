import java.lang.reflect.Constructor;
import java.lang.reflect.Field;
import java.lang.reflect.Method;
import java.lang.reflect.Modifier;
import java.util.Arrays;
import java.util.Set;
import java.util.TreeSet;

/** The document's face, all of it and nothing beside it. */
public final class FaceTest {
    private static final Set<String> METHODS = new TreeSet<>(Arrays.asList(
            "int tally[int, long]", "int way[int, int]", "int hearer[int, int, int]",
            "int bind[int, int]", "int leave[int, int]", "int take[int]", "int lend[int, int]",
            "int ring[int, long]", "int drain[]", "int act[int, long]", "long get[int]",
            "int line[int, int]", "int queued[int]", "int count[int]", "int done[int]"));
    private static final Set<String> CONSTANTS = new TreeSet<>(Arrays.asList("NONE", "BAD", "FULL"));

    public static void main(String[] args) {
        Check check = new Check();
        check.holds("public final", BellHouse.class.getModifiers() == (Modifier.PUBLIC | Modifier.FINAL));
        check.due("NONE", BellHouse.NONE, -1);
        check.due("BAD", BellHouse.BAD, -2);
        check.due("FULL", BellHouse.FULL, -3);
        methods(check);
        fields(check);
        constructors(check);
        for (Class<?> inside : BellHouse.class.getDeclaredClasses()) {
            int with = inside.getModifiers();
            check.holds(inside + " is static and not public",
                    Modifier.isStatic(with) && !Modifier.isPublic(with) && !Modifier.isProtected(with));
        }
        check.end();
    }

    private static void methods(Check check) {
        Set<String> open = new TreeSet<>();
        Set<String> openNames = new TreeSet<>();
        for (Method method : BellHouse.class.getDeclaredMethods()) {
            if (!Modifier.isPrivate(method.getModifiers())) {
                check.holds(method + " is public and not static", method.getModifiers() == Modifier.PUBLIC);
                open.add(method.getReturnType() + " " + method.getName()
                        + Arrays.toString(method.getParameterTypes()));
                openNames.add(method.getName());
            }
        }
        check.holds("the methods are " + METHODS + ", not " + open, open.equals(METHODS));
        for (Method method : BellHouse.class.getDeclaredMethods()) {
            if (Modifier.isPrivate(method.getModifiers())) {
                check.holds(method + " has a name of its own", !openNames.contains(method.getName()));
            }
        }
    }

    private static void fields(Check check) {
        Set<String> open = new TreeSet<>();
        for (Field field : BellHouse.class.getDeclaredFields()) {
            int with = field.getModifiers();
            if (!Modifier.isPrivate(with)) {
                check.holds(field + " is a public constant of int", field.getType() == int.class
                        && with == (Modifier.PUBLIC | Modifier.STATIC | Modifier.FINAL));
                open.add(field.getName());
            }
            check.holds(field + " is final if static", !Modifier.isStatic(with) || Modifier.isFinal(with));
        }
        check.holds("the constants are " + CONSTANTS + ", not " + open, open.equals(CONSTANTS));
    }

    private static void constructors(Check check) {
        Constructor<?>[] all = BellHouse.class.getDeclaredConstructors();
        check.due("constructors", all.length, 1);
        check.holds("the constructor is public, without parameters",
                all[0].getModifiers() == Modifier.PUBLIC && all[0].getParameterCount() == 0);
    }
}
