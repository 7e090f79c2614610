import java.io.IOException;
import java.lang.reflect.Method;
import java.nio.file.Files;
import java.nio.file.Path;
import java.util.Set;
import java.util.TreeSet;
import java.util.regex.Matcher;
import java.util.regex.Pattern;

/** The example of README.md answers what it says, and README.md names every call of the face and every test. */
public final class ReadmeTest {
    private static final Checks CHECKS = new Checks();
    private static final Pattern CALL = Pattern.compile("    house\\.(\\w+)\\((.*?)\\);\\s*(?:// (-?\\d+|true|false): .*)?");

    private static Object value(String text) {
        if (text.equals("true") || text.equals("false")) {
            return text.equals("true");
        }
        if (text.startsWith("0b")) {
            return Integer.parseInt(text.substring(2), 2);
        }
        return Long.decode(text).intValue();
    }

    private static Method method(String name) {
        for (Method method : RightsHouse.class.getMethods()) {
            if (method.getName().equals(name)) {
                return method;
            }
        }
        throw new IllegalStateException("README.md calls what there isn't: " + name);
    }

    private static Object call(RightsHouse house, String name, String list) {
        String[] parts = list.isEmpty() ? new String[0] : list.split(", ");
        Object[] values = new Object[parts.length];
        for (int i = 0; i < parts.length; i++) {
            values[i] = value(parts[i]);
        }
        try {
            return method(name).invoke(house, values);
        } catch (ReflectiveOperationException e) {
            throw new IllegalStateException(name + " of README.md", e);
        }
    }

    private static void example(Iterable<String> lines) {
        CHECKS.about("README.md: Use");
        RightsHouse house = new RightsHouse();
        int answers = 0;
        for (String line : lines) {
            Matcher matcher = CALL.matcher(line);
            boolean isCall = matcher.matches();
            CHECKS.due("[" + line + "] can be read", isCall, line.startsWith("    house."));
            if (isCall) {
                Object got = call(house, matcher.group(1), matcher.group(2));
                if (matcher.group(3) != null) {
                    CHECKS.same(line.trim(), got.toString(), matcher.group(3));
                    answers++;
                }
            }
        }
        CHECKS.due("answers are told", answers > 10, true);
    }

    private static void names(String text) throws IOException {
        CHECKS.about("README.md: every call and every test");
        for (Method method : RightsHouse.class.getDeclaredMethods()) {
            if (java.lang.reflect.Modifier.isPublic(method.getModifiers())) {
                CHECKS.due(method.getName() + " is told", text.contains("`" + method.getName() + "("), true);
            }
        }
        Set<String> tests = new TreeSet<>();
        try (var files = Files.list(Path.of("src/test/java"))) {
            files.forEach(file -> tests.add(file.getFileName().toString().replace(".java", "")));
        }
        for (String test : tests) {
            CHECKS.due(test + " is told", !test.endsWith("Test") || text.contains("| " + test + " |"), true);
        }
    }

    public static void main(String[] args) throws IOException {
        Path readme = Path.of("README.md");
        example(Files.readAllLines(readme));
        names(Files.readString(readme));
        CHECKS.end();
    }
}
