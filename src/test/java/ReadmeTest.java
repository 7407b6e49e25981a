import java.io.IOException;
import java.lang.reflect.Method;
import java.lang.reflect.Modifier;
import java.nio.file.DirectoryStream;
import java.nio.file.Files;
import java.nio.file.Path;
import java.util.Set;
import java.util.TreeSet;
import java.util.regex.Matcher;
import java.util.regex.Pattern;

/** README.md: its example answers as it says, and it names every call and every test. */
public final class ReadmeTest {
    private static final Path README = Path.of("README.md"), TESTS = Path.of("src/test/java");
    private static final String NEW_HOUSE = "BellHouse house = new BellHouse();";
    private static final Pattern EXAMPLE = Pattern.compile("(?s)```java\n(.*?)```");
    private static final Pattern CALL = Pattern.compile("house\\.(\\w+)\\(([-0-9, ]*)\\); +// (-?[0-9]+): .*");
    private static final Check check = new Check();

    public static void main(String[] args) throws IOException {
        String readme = Files.readString(README);
        example(readme);
        callsAreNamed(readme);
        testsAreNamed(readme);
        check.end();
    }

    private static void example(String readme) {
        Matcher found = EXAMPLE.matcher(readme);
        if (!found.find()) {
            check.holds("there is an example", false);
            return;
        }
        String[] rows = found.group(1).split("\n");
        check.holds("it begins by making an object", rows[0].equals(NEW_HOUSE));
        House house = new House();
        Set<String> called = new TreeSet<>();
        for (int row = 1; row < rows.length; row++) {
            Matcher call = CALL.matcher(rows[row]);
            if (call.matches()) {
                called.add(call.group(1));
                check.due(rows[row], answer(house, call.group(1), call.group(2)), Long.parseLong(call.group(3)));
            } else {
                check.holds(rows[row] + " is a call with its answer", false);
            }
        }
        check.holds("every call is in it, not only " + called, called.equals(callNames()));
        check.holds("there is one example", !found.find());
    }

    private static long answer(House house, String name, String given) {
        String[] texts = given.isBlank() ? new String[0] : given.split(", ");
        for (Method method : House.class.getDeclaredMethods()) {
            if (method.getName().equals(name) && method.getParameterCount() == texts.length) {
                return answer(house, method, texts);
            }
        }
        throw new IllegalStateException("there is no call " + name + " of " + texts.length);
    }

    private static long answer(House house, Method method, String[] texts) {
        Object[] arguments = new Object[texts.length];
        for (int i = 0; i < texts.length; i++) {
            boolean isLong = method.getParameterTypes()[i] == long.class;
            arguments[i] = isLong ? (Object) Long.valueOf(texts[i]) : (Object) Integer.valueOf(texts[i]);
        }
        try {
            return ((Number) method.invoke(house, arguments)).longValue();
        } catch (ReflectiveOperationException refused) {
            throw new IllegalStateException(method.getName() + " was not answered", refused);
        }
    }

    private static Set<String> callNames() {
        Set<String> names = new TreeSet<>();
        for (Method method : BellHouse.class.getDeclaredMethods()) {
            if (Modifier.isPublic(method.getModifiers())) {
                names.add(method.getName());
            }
        }
        return names;
    }

    private static void callsAreNamed(String readme) {
        for (Method method : BellHouse.class.getDeclaredMethods()) {
            if (Modifier.isPublic(method.getModifiers())) {
                StringBuilder row = new StringBuilder("\\| `").append(method.getName()).append("\\(");
                for (int i = 0; i < method.getParameterCount(); i++) {
                    row.append(i == 0 ? "" : ", ").append(method.getParameterTypes()[i]).append(" \\w+");
                }
                row.append("\\)` \\|");
                check.holds(method + " has a row", Pattern.compile(row.toString()).matcher(readme).find());
            }
        }
    }

    private static void testsAreNamed(String readme) throws IOException {
        try (DirectoryStream<Path> tests = Files.newDirectoryStream(TESTS, "*Test.java")) {
            for (Path test : tests) {
                String name = test.getFileName().toString().replace(".java", "");
                check.holds(name + " is named", readme.contains("- `" + name + "`: "));
            }
        }
    }
}
