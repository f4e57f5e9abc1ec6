import java.lang.reflect.Constructor;
import java.lang.reflect.Field;
import java.lang.reflect.Method;
import java.lang.reflect.Modifier;
import java.util.Set;
import java.util.TreeSet;

/** The public face is the document's, and nothing else of the class can be seen from outside. */
public final class FaceTest {
    private static final String ARGUMENT = " throws IllegalArgumentException";
    private static final String BOTH = " throws IllegalArgumentException IllegalStateException";

    public static void main(String[] args) {
        Due due = new Due("FaceTest");
        Set<String> want = new TreeSet<>(Set.of(
            "NONE = -1", "CableSizes()",
            "int tray(int int int int)" + BOTH, "int size(int int int)" + BOTH, "int cable(int int int)" + BOTH,
            "int current(int int)" + ARGUMENT, "int room(int int)" + ARGUMENT, "int limit(int)" + ARGUMENT,
            "int way(int)" + ARGUMENT, "int way(int int)" + ARGUMENT,
            "boolean settled()", "int chosen(int)" + ARGUMENT, "int told(int int)" + ARGUMENT,
            "int cableAt(int int)" + ARGUMENT, "int copper()", "boolean right(long)" + ARGUMENT));
        Set<String> got = visibleMembers();
        due.holds("the face " + got, got.equals(want));
        int modifiers = CableSizes.class.getModifiers();
        due.holds("public", Modifier.isPublic(modifiers));
        due.holds("final", Modifier.isFinal(modifiers));
        due.end();
    }

    private static Set<String> visibleMembers() {
        Set<String> got = new TreeSet<>();
        for (Field field : CableSizes.class.getDeclaredFields()) {
            if (!Modifier.isPrivate(field.getModifiers())) {
                got.add(field.getName() + " = " + CableSizes.NONE);
            }
        }
        for (Constructor<?> made : CableSizes.class.getDeclaredConstructors()) {
            if (!Modifier.isPrivate(made.getModifiers())) {
                got.add("CableSizes(" + names(made.getParameterTypes(), "") + ")");
            }
        }
        for (Method method : CableSizes.class.getDeclaredMethods()) {
            if (!Modifier.isPrivate(method.getModifiers())) {
                got.add(method.getReturnType().getSimpleName() + " " + method.getName()
                    + "(" + names(method.getParameterTypes(), "") + ")"
                    + names(method.getExceptionTypes(), " throws "));
            }
        }
        return got;
    }

    private static String names(Class<?>[] types, String ahead) {
        StringBuilder text = new StringBuilder();
        for (Class<?> type : types) {
            text.append(text.length() == 0 ? ahead : " ").append(type.getSimpleName());
        }
        return text.toString();
    }
}
