import java.lang.reflect.Constructor;
import java.lang.reflect.Field;
import java.lang.reflect.Method;
import java.lang.reflect.Modifier;
import java.util.Set;
import java.util.TreeSet;

/** The public face is the document's, and nothing else of the class can be seen from outside. */
public final class FaceTest {
    private static final String ARGUMENT = " throws IllegalArgumentException";
    private static final String BOTH = " throws IllegalArgumentException IllegalStateException";

    public static void main(String[] args) {
        Due due = new Due("FaceTest");
        Set<String> want = new TreeSet<>(Set.of(
            "public static final int NONE = -1", "public CableSizes()",
            "public int tray(int int int int)" + BOTH, "public int size(int int int)" + BOTH,
            "public int cable(int int int)" + BOTH, "public int current(int int)" + ARGUMENT,
            "public int room(int int)" + ARGUMENT, "public int limit(int)" + ARGUMENT,
            "public int way(int)" + ARGUMENT, "public int way(int int)" + ARGUMENT,
            "public boolean settled()", "public int chosen(int)" + ARGUMENT, "public int told(int int)" + ARGUMENT,
            "public int cableAt(int int)" + ARGUMENT, "public int copper()", "public boolean right(long)" + ARGUMENT));
        Set<String> got = visibleMembers();
        due.holds("the face " + got, got.equals(want));
        int modifiers = CableSizes.class.getModifiers();
        due.holds("public", Modifier.isPublic(modifiers));
        due.holds("final", Modifier.isFinal(modifiers));
        for (Class<?> inside : CableSizes.class.getDeclaredClasses()) {
            due.holds(inside + " is static", Modifier.isStatic(inside.getModifiers()));
            due.fails(inside + " is public or protected",
                Modifier.isPublic(inside.getModifiers()) || Modifier.isProtected(inside.getModifiers()));
        }
        due.end();
    }

    private static Set<String> visibleMembers() {
        Set<String> got = new TreeSet<>();
        for (Field field : CableSizes.class.getDeclaredFields()) {
            if (!Modifier.isPrivate(field.getModifiers())) {
                got.add(Modifier.toString(field.getModifiers()) + " " + field.getType() + " " + field.getName()
                    + " = " + CableSizes.NONE);
            }
        }
        for (Constructor<?> made : CableSizes.class.getDeclaredConstructors()) {
            if (!Modifier.isPrivate(made.getModifiers())) {
                got.add(Modifier.toString(made.getModifiers())
                    + " CableSizes(" + names(made.getParameterTypes(), "") + ")");
            }
        }
        for (Method method : CableSizes.class.getDeclaredMethods()) {
            if (!Modifier.isPrivate(method.getModifiers())) {
                got.add(Modifier.toString(method.getModifiers()) + " "
                    + method.getReturnType().getSimpleName() + " " + method.getName()
                    + "(" + names(method.getParameterTypes(), "") + ")"
                    + names(method.getExceptionTypes(), " throws "));
            }
        }
        return got;
    }

    private static String names(Class<?>[] types, String ahead) {
        StringBuilder text = new StringBuilder();
        for (Class<?> type : types) {
            text.append(text.length() == 0 ? ahead : " ").append(type.getSimpleName());
        }
        return text.toString();
    }
}
