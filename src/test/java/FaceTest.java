import java.lang.reflect.Constructor;
import java.lang.reflect.Field;
import java.lang.reflect.Method;
import java.lang.reflect.Modifier;
import java.util.Arrays;
import java.util.Set;
import java.util.TreeSet;

/** The public face: just what the document names, with the exceptions in its order. */
public final class FaceTest {
    private static final String ARGUMENT = "IllegalArgumentException";
    private static final String STATE = "IllegalStateException";
    private static final String INDEX = "IndexOutOfBoundsException";

    public static void main(String[] args) {
        Set<String> due = new TreeSet<>(Arrays.asList(
            "int moveIn 2 " + ARGUMENT + " " + STATE,
            "int setHour 1 " + ARGUMENT,
            "int addHabit 1 " + INDEX + " " + STATE,
            "int setWhen 6 " + INDEX + " " + ARGUMENT,
            "int setWhat 6 " + INDEX + " " + ARGUMENT,
            "int dropHabit 2 " + INDEX,
            "int tenant 2 " + INDEX,
            "int habit 3 " + INDEX,
            "int ring 1 " + INDEX,
            "int pass 1 " + ARGUMENT,
            "int count 1 " + INDEX,
            "int waiting 2 " + INDEX,
            "int fits 3 " + INDEX + " " + ARGUMENT,
            "int sung 2 " + INDEX,
            "int through 2 " + INDEX,
            "int sounds 2 " + ARGUMENT + " " + INDEX,
            "int best 0",
            "int emptySongs 0",
            "int reach 1 " + INDEX,
            "int hops 2 " + INDEX,
            "double patience 0",
            "long digest 0"));
        Set<String> names = new TreeSet<>();
        for (String one : due) {
            names.add(one.split(" ")[1]);
        }
        Set<String> got = new TreeSet<>();
        for (Method method : DoorbellChoir.class.getDeclaredMethods()) {
            if (Modifier.isPrivate(method.getModifiers())) {
                Check.same("a private method named " + method.getName(),
                    names.contains(method.getName()) ? 1 : 0, 0);
            } else {
                got.add(told(method));
            }
        }
        Check.same("the face " + got + ", due is " + due, got.equals(due) ? 1 : 0, 1);
        for (Field field : DoorbellChoir.class.getDeclaredFields()) {
            Check.same("field " + field.getName() + " is private",
                Modifier.isPrivate(field.getModifiers()) ? 1 : 0, 1);
        }
        Constructor<?>[] constructors = DoorbellChoir.class.getDeclaredConstructors();
        Check.same("constructors", constructors.length, 1);
        Check.same("its arguments", constructors[0].getParameterCount(), 0);
        Check.same("it is public", Modifier.isPublic(constructors[0].getModifiers()) ? 1 : 0, 1);
        int modifiers = DoorbellChoir.class.getModifiers();
        Check.same("the class is public", Modifier.isPublic(modifiers) ? 1 : 0, 1);
        Check.same("the class is final", Modifier.isFinal(modifiers) ? 1 : 0, 1);
        Check.end();
    }

    private static String told(Method method) {
        StringBuilder text = new StringBuilder();
        text.append(method.getReturnType().getSimpleName()).append(' ').append(method.getName());
        text.append(' ').append(method.getParameterCount());
        for (Class<?> thrown : method.getExceptionTypes()) {
            text.append(' ').append(thrown.getSimpleName());
        }
        for (Class<?> type : method.getParameterTypes()) {
            if (type != int.class) {
                text.append(" with a ").append(type.getSimpleName());
            }
        }
        return text.toString();
    }
}
