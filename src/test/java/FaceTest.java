import java.io.IOException;
import java.lang.reflect.Constructor;
import java.lang.reflect.Field;
import java.lang.reflect.Method;
import java.lang.reflect.Modifier;
import java.nio.charset.StandardCharsets;
import java.nio.file.Files;
import java.nio.file.Path;
import java.util.ArrayList;
import java.util.Arrays;
import java.util.List;
import java.util.Set;
import java.util.TreeSet;
import java.util.regex.Matcher;
import java.util.regex.Pattern;

/** The public face is the document's and nothing more; of LANGUAGE.md what can be seen by reflection and in the text. */
public final class FaceTest {
    private static final Checks CHECKS = new Checks();
    private static final String FACE = "part(int)int grant(int,int)boolean feed(int,int,int,int,int)int lines(int,int)int "
        + "fault()int where()int line(int,int,int)int meant(int,int,boolean)boolean holds(int,int)int result(int)int "
        + "asked(int)int door(int)int leaks()int misuse(boolean)int wrong(int)int way(int,int)int step(int)int "
        + "needed(int)int idle(int)int lacking(int)int helped(int)int trim()int cure()int cured(int)int "
        + "without(int,int)int key()int count(int)int trouble()int";
    private static final Set<String> IMPORTS = Set.of("java.util.ArrayList", "java.util.Arrays", "java.util.Iterator",
        "java.util.List", "java.util.NoSuchElementException");
    private static final Set<String> EXCEPTIONS = Set.of("IllegalStateException", "IllegalArgumentException",
        "IndexOutOfBoundsException", "ArithmeticException", "UnsupportedOperationException", "NoSuchElementException",
        "RuntimeException");

    private static String shape(Method method) {
        StringBuilder text = new StringBuilder(method.getName()).append('(');
        for (Class<?> type : method.getParameterTypes()) {
            text.append(text.charAt(text.length() - 1) == '(' ? "" : ",").append(type.getSimpleName());
        }
        return text.append(')').append(method.getReturnType().getSimpleName()).toString();
    }

    private static void face() {
        CHECKS.about("LANGUAGE 1: the class of the document, public and final, and no other member");
        Set<String> due = new TreeSet<>(Arrays.asList(FACE.split(" ")));
        Set<String> there = new TreeSet<>();
        for (Method method : RightsHouse.class.getDeclaredMethods()) {
            if (!Modifier.isPrivate(method.getModifiers()) && !method.isSynthetic()) {
                there.add(shape(method));
                CHECKS.due(method.getName() + " is public", Modifier.isPublic(method.getModifiers()), true);
                CHECKS.due(method.getName() + " is of an object", Modifier.isStatic(method.getModifiers()), false);
            }
        }
        CHECKS.due("the methods " + there, there.equals(due), true);
        CHECKS.due("public", Modifier.isPublic(RightsHouse.class.getModifiers()), true);
        CHECKS.due("final", Modifier.isFinal(RightsHouse.class.getModifiers()), true);
        Constructor<?>[] makers = RightsHouse.class.getDeclaredConstructors();
        CHECKS.due("constructors", makers.length, 1);
        CHECKS.due("of no parameters", makers[0].getParameterCount(), 0);
        CHECKS.due("public, too", Modifier.isPublic(makers[0].getModifiers()), true);
        for (Field field : RightsHouse.class.getDeclaredFields()) {
            boolean open = !Modifier.isPrivate(field.getModifiers()) && !field.isSynthetic();
            CHECKS.due("field " + field.getName() + " is open", open, field.getName().equals("NONE"));
        }
    }

    private static List<Class<?>> withAllInside(Class<?> outer) {
        List<Class<?>> all = new ArrayList<>(List.of(outer));
        for (Class<?> inner : outer.getDeclaredClasses()) {
            all.addAll(withAllInside(inner));
        }
        return all;
    }

    private static void inside() {
        Set<String> names = new TreeSet<>();
        for (String method : FACE.split(" ")) {
            names.add(method.substring(0, method.indexOf('(')));
        }
        CHECKS.about("LANGUAGE 1, 2, 5, 11: the classes inside");
        List<Class<?>> all = withAllInside(RightsHouse.class);
        CHECKS.due("some twelve classes", all.size() <= 13, true);
        for (Class<?> one : all) {
            int open = Modifier.PUBLIC | Modifier.PROTECTED;
            CHECKS.due(one + " is open", one != RightsHouse.class && (one.getModifiers() & open) != 0, false);
            CHECKS.due(one + " has some twenty fields", ownFields(one) <= 22, true);
            for (Method method : one.getDeclaredMethods()) {
                boolean hidden = Modifier.isPrivate(method.getModifiers());
                CHECKS.due(one + "." + method.getName() + " bears a face's name", hidden && names.contains(method.getName()), false);
                CHECKS.due(one + "." + method.getName() + " takes at most 7", method.getParameterCount() <= 7, true);
                CHECKS.due(one + "." + method.getName() + " is a lambda", method.getName().startsWith("lambda$"), false);
            }
        }
    }

    private static int ownFields(Class<?> one) {
        int fields = 0;
        for (Field field : one.getDeclaredFields()) {
            boolean isStatic = Modifier.isStatic(field.getModifiers());
            fields += isStatic ? 0 : 1;
            CHECKS.due(one + "." + field.getName() + " is final", !isStatic || Modifier.isFinal(field.getModifiers()), true);
        }
        return fields;
    }

    /** The lines without what stands in comments and between quotes. */
    private static List<String> codeOf(List<String> lines) {
        List<String> code = new ArrayList<>();
        boolean inComment = false;
        for (String line : lines) {
            String bare = line.replaceAll("\"(\\\\.|[^\"\\\\])*\"", "\"\"").replaceAll("'(\\\\.|[^'\\\\])'", "' '");
            if (inComment) {
                inComment = !bare.contains("*/");
                bare = inComment ? "" : bare.substring(bare.indexOf("*/") + 2);
            }
            bare = bare.replaceAll("/\\*.*?\\*/", "").replaceAll("//.*", "");
            if (bare.contains("/*")) {
                inComment = true;
                bare = bare.substring(0, bare.indexOf("/*"));
            }
            code.add(bare);
        }
        return code;
    }

    private static void allAmong(String words, String code, String pattern, Set<String> allowed) {
        Matcher matcher = Pattern.compile(pattern).matcher(code);
        while (matcher.find()) {
            for (String name : matcher.group(1).trim().split("\\s*\\|\\s*")) {
                CHECKS.due(words + " '" + name + "'", allowed.contains(name), true);
            }
        }
    }

    private static void text() throws IOException {
        List<String> lines = Files.readAllLines(Path.of("src/main/java/RightsHouse.java"), StandardCharsets.US_ASCII);
        List<String> code = codeOf(lines);
        CHECKS.about("LANGUAGE 2, 4, 5, 6, 13: what the text must not have");
        String[] refused = {"::", "finally", "synchronized", "assert ", "Exact(", "package ", "hashCode", "getMessage", "static {",
            "System.out", "System.err", "System.nano", "System.current", "Math.random", "Random", "Thread", "java.io", "java.nio"};
        for (int i = 0; i < code.size(); i++) {
            for (String words : refused) {
                CHECKS.due("line " + (i + 1) + " has '" + words + "'", code.get(i).contains(words), false);
            }
        }
        String whole = String.join("\n", code);
        CHECKS.about("LANGUAGE 4: the library");
        allAmong("import of", whole, "import\\s+([\\w.*]+)\\s*;", IMPORTS);
        CHECKS.about("LANGUAGE 6: exceptions");
        allAmong("throw of", whole, "\\bthrow\\s+(?:new\\s+)?(\\w+)", EXCEPTIONS);
        allAmong("catch of", whole, "\\bcatch\\s*\\(\\s*(?:final\\s+)?([\\w\\s|.]+?)\\s+\\w+\\s*\\)", EXCEPTIONS);
        CHECKS.about("LANGUAGE 11: methods stay short (some sixty lines)");
        shortMethods(lines, "    ");
        shortMethods(lines, "        ");
    }

    /** Of methods that stand at this depth, from the line that opens each to the brace below it. */
    private static void shortMethods(List<String> lines, String depth) {
        int start = -1;
        for (int i = 0; i < lines.size(); i++) {
            if (lines.get(i).matches(depth + "\\w.*\\) (throws \\w+ )?\\{")) {
                start = i;
            }
            if (lines.get(i).equals(depth + "}") && start >= 0) {
                CHECKS.due("the method of line " + (start + 1) + " is short", i - start <= 65, true);
                start = -1;
            }
        }
    }

    public static void main(String[] args) throws IOException {
        face();
        inside();
        text();
        CHECKS.end();
    }
}
