import java.lang.reflect.Constructor;
import java.lang.reflect.Field;
import java.lang.reflect.Method;
import java.lang.reflect.Modifier;
import java.util.Arrays;
import java.util.Set;
import java.util.TreeSet;

/** The public face is the document's and nothing more; fields and helpers keep to rules 1, 5 and 11. */
public final class FaceTest {
    private static final Checks CHECKS = new Checks();
    private static final String FACE = "part(int)int grant(int,int)boolean feed(int,int,int,int,int)int lines(int,int)int "
        + "fault()int where()int line(int,int,int)int meant(int,int,boolean)boolean holds(int,int)int result(int)int "
        + "asked(int)int door(int)int leaks()int misuse(boolean)int wrong(int)int way(int,int)int step(int)int "
        + "needed(int)int idle(int)int lacking(int)int helped(int)int trim()int cure()int cured(int)int "
        + "without(int,int)int key()int count(int)int trouble()int";

    private static String shape(Method method) {
        StringBuilder text = new StringBuilder(method.getName()).append('(');
        for (Class<?> type : method.getParameterTypes()) {
            text.append(text.charAt(text.length() - 1) == '(' ? "" : ",").append(type.getSimpleName());
        }
        return text.append(')').append(method.getReturnType().getSimpleName()).toString();
    }

    private static void face() {
        Set<String> due = new TreeSet<>(Arrays.asList(FACE.split(" ")));
        Set<String> there = new TreeSet<>();
        for (Method method : RightsHouse.class.getDeclaredMethods()) {
            if (!Modifier.isPrivate(method.getModifiers()) && !method.isSynthetic()) {
                there.add(shape(method));
            }
        }
        CHECKS.due("the methods " + there, there.equals(due), true);
        CHECKS.due("final", Modifier.isFinal(RightsHouse.class.getModifiers()), true);
        Constructor<?>[] makers = RightsHouse.class.getDeclaredConstructors();
        CHECKS.due("constructors", makers.length, 1);
        CHECKS.due("of no parameters", makers[0].getParameterCount(), 0);
        for (Field field : RightsHouse.class.getDeclaredFields()) {
            boolean open = !Modifier.isPrivate(field.getModifiers());
            CHECKS.due("field " + field.getName() + " is open", open, field.getName().equals("NONE"));
        }
    }

    private static void inside() {
        Set<String> names = new TreeSet<>();
        for (String method : FACE.split(" ")) {
            names.add(method.substring(0, method.indexOf('(')));
        }
        for (Class<?> inner : RightsHouse.class.getDeclaredClasses()) {
            CHECKS.due(inner + " is static", Modifier.isStatic(inner.getModifiers()), true);
            int fields = 0;
            for (Field field : inner.getDeclaredFields()) {
                fields += Modifier.isStatic(field.getModifiers()) ? 0 : 1;
            }
            CHECKS.due(inner + " has at most 20 fields", fields <= 20, true);
            for (Method method : inner.getDeclaredMethods()) {
                CHECKS.due(inner + "." + method.getName() + " bears a face's name", names.contains(method.getName()), false);
                CHECKS.due(inner + "." + method.getName() + " takes at most 7", method.getParameterCount() <= 7, true);
            }
        }
        for (Method method : RightsHouse.class.getDeclaredMethods()) {
            boolean open = Modifier.isPublic(method.getModifiers());
            CHECKS.due(method.getName() + " bears a face's name", names.contains(method.getName()), open);
        }
        CHECKS.due("at most 12 classes", RightsHouse.class.getDeclaredClasses().length < 12, true);
    }

    public static void main(String[] args) {
        face();
        inside();
        CHECKS.end();
    }
}
