import java.io.IOException;
import java.lang.reflect.Constructor;
import java.lang.reflect.Field;
import java.lang.reflect.Method;
import java.lang.reflect.Modifier;
import java.nio.charset.StandardCharsets;
import java.nio.file.Files;
import java.nio.file.Path;
import java.util.Arrays;
import java.util.List;
import java.util.Set;
import java.util.TreeSet;

/** The public face is the document's and nothing more; fields, helpers and text keep to what of the rules can be seen. */
public final class FaceTest {
    private static final Checks CHECKS = new Checks();
    private static final String FACE = "part(int)int grant(int,int)boolean feed(int,int,int,int,int)int lines(int,int)int "
        + "fault()int where()int line(int,int,int)int meant(int,int,boolean)boolean holds(int,int)int result(int)int "
        + "asked(int)int door(int)int leaks()int misuse(boolean)int wrong(int)int way(int,int)int step(int)int "
        + "needed(int)int idle(int)int lacking(int)int helped(int)int trim()int cure()int cured(int)int "
        + "without(int,int)int key()int count(int)int trouble()int";

    private static String shape(Method method) {
        StringBuilder text = new StringBuilder(method.getName()).append('(');
        for (Class<?> type : method.getParameterTypes()) {
            text.append(text.charAt(text.length() - 1) == '(' ? "" : ",").append(type.getSimpleName());
        }
        return text.append(')').append(method.getReturnType().getSimpleName()).toString();
    }

    private static void face() {
        Set<String> due = new TreeSet<>(Arrays.asList(FACE.split(" ")));
        Set<String> there = new TreeSet<>();
        for (Method method : RightsHouse.class.getDeclaredMethods()) {
            if (!Modifier.isPrivate(method.getModifiers()) && !method.isSynthetic()) {
                there.add(shape(method));
            }
        }
        CHECKS.due("the methods " + there, there.equals(due), true);
        CHECKS.due("final", Modifier.isFinal(RightsHouse.class.getModifiers()), true);
        Constructor<?>[] makers = RightsHouse.class.getDeclaredConstructors();
        CHECKS.due("constructors", makers.length, 1);
        CHECKS.due("of no parameters", makers[0].getParameterCount(), 0);
        for (Field field : RightsHouse.class.getDeclaredFields()) {
            boolean open = !Modifier.isPrivate(field.getModifiers());
            CHECKS.due("field " + field.getName() + " is open", open, field.getName().equals("NONE"));
        }
    }

    private static void inside() {
        Set<String> names = new TreeSet<>();
        for (String method : FACE.split(" ")) {
            names.add(method.substring(0, method.indexOf('(')));
        }
        for (Class<?> inner : RightsHouse.class.getDeclaredClasses()) {
            CHECKS.due(inner + " is static", Modifier.isStatic(inner.getModifiers()), true);
            int fields = 0;
            for (Field field : inner.getDeclaredFields()) {
                fields += Modifier.isStatic(field.getModifiers()) ? 0 : 1;
            }
            CHECKS.due(inner + " has at most 20 fields", fields <= 20, true);
            for (Method method : inner.getDeclaredMethods()) {
                CHECKS.due(inner + "." + method.getName() + " bears a face's name", names.contains(method.getName()), false);
                CHECKS.due(inner + "." + method.getName() + " takes at most 7", method.getParameterCount() <= 7, true);
            }
        }
        for (Method method : RightsHouse.class.getDeclaredMethods()) {
            boolean open = Modifier.isPublic(method.getModifiers());
            CHECKS.due(method.getName() + " bears a face's name", names.contains(method.getName()), open);
        }
        CHECKS.due("at most 12 classes", RightsHouse.class.getDeclaredClasses().length < 12, true);
    }

    private static void text() throws IOException {
        List<String> lines = Files.readAllLines(Path.of("src/main/java/RightsHouse.java"), StandardCharsets.US_ASCII);
        String[] refused = {"->", "::", "catch", "try ", "finally", "synchronized", "assert ", "Exact(", "package ", "hashCode",
            "toString", "System.out", "random", "Thread", "Time", "static {", "long ", "double ", "float "};
        int imports = 0;
        int throwing = 0;
        for (int i = 0; i < lines.size(); i++) {
            String line = lines.get(i);
            imports += line.startsWith("import ") ? 1 : 0;
            throwing += line.contains("throw ") ? 1 : 0;
            for (String words : refused) {
                boolean isComment = line.trim().startsWith("*") || line.trim().startsWith("/");
                CHECKS.due("line " + (i + 1) + " has '" + words + "'", line.contains(words) && !isComment, false);
            }
        }
        CHECKS.due("imports", imports, 2);
        CHECKS.due("throws written out", throwing, 1);
        shortMethods(lines, "    ");
        shortMethods(lines, "        ");
    }

    /** Of methods that stand at this depth, from the line that opens each to the brace below it. */
    private static void shortMethods(List<String> lines, String depth) {
        int start = -1;
        for (int i = 0; i < lines.size(); i++) {
            if (lines.get(i).matches(depth + "\\w.*\\) (throws \\w+ )?\\{")) {
                start = i;
            }
            if (lines.get(i).equals(depth + "}") && start >= 0) {
                CHECKS.due("the method of line " + (start + 1) + " is short", i - start < 60, true);
                start = -1;
            }
        }
    }

    public static void main(String[] args) throws IOException {
        face();
        inside();
        text();
        CHECKS.end();
    }
}
