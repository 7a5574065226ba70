import java.lang.reflect.Constructor;
import java.lang.reflect.Field;
import java.lang.reflect.Method;
import java.lang.reflect.Modifier;
import java.util.Arrays;
import java.util.Set;
import java.util.TreeSet;

/** The class shows exactly the document's face, and keeps no static state. */
public final class FaceTest extends Due {
    private static final String[] FACE = {
        "int unit(int, int, int, int) throws IndexOutOfBoundsException, UnsupportedOperationException",
        "void home(int, int) throws IllegalArgumentException, IndexOutOfBoundsException",
        "void span(int) throws IndexOutOfBoundsException",
        "int call(int, boolean) throws IndexOutOfBoundsException, UnsupportedOperationException",
        "void send(int, int) throws IllegalArgumentException, IllegalStateException",
        "int release(int, int) throws IllegalArgumentException, IndexOutOfBoundsException, IllegalStateException",
        "void back(int) throws IllegalArgumentException, IllegalStateException",
        "int use(int, int, int) throws IllegalArgumentException, IndexOutOfBoundsException,"
            + " IllegalStateException, UnsupportedOperationException",
        "int deliver(int, int) throws IllegalArgumentException, IndexOutOfBoundsException,"
            + " UnsupportedOperationException",
        "void check(int, int) throws IllegalArgumentException, IndexOutOfBoundsException, IllegalStateException",
        "void inside(int, int) throws IllegalArgumentException, IndexOutOfBoundsException, IllegalStateException",
        "void report(int, int) throws IllegalArgumentException, IllegalStateException",
        "void watch(int, int) throws IllegalArgumentException, IndexOutOfBoundsException, IllegalStateException",
        "int tick(int) throws IndexOutOfBoundsException",
        "int unitAt(int, int) throws IllegalArgumentException",
        "int incidentAt(int, int) throws IllegalArgumentException",
        "int count(int) throws IllegalArgumentException",
    };

    private static String names(Class<?>[] types) {
        StringBuilder text = new StringBuilder();
        for (Class<?> type : types) {
            text.append(text.length() == 0 ? "" : ", ").append(type.getSimpleName());
        }
        return text.toString();
    }

    private static String faceOf(Method method) {
        return method.getReturnType().getSimpleName() + " " + method.getName()
            + "(" + names(method.getParameterTypes()) + ") throws " + names(method.getExceptionTypes());
    }

    private static void testMethods() {
        Set<String> shown = new TreeSet<>();
        Set<String> shownNames = new TreeSet<>();
        for (Method method : ReleaseRows.class.getDeclaredMethods()) {
            if (!Modifier.isPrivate(method.getModifiers())) {
                shown.add(faceOf(method));
                shownNames.add(method.getName());
                due(method + " public", Modifier.isPublic(method.getModifiers()), true);
                due(method + " static", Modifier.isStatic(method.getModifiers()), false);
            }
        }
        due("the face", shown, new TreeSet<>(Arrays.asList(FACE)));
        for (Method method : ReleaseRows.class.getDeclaredMethods()) {
            if (Modifier.isPrivate(method.getModifiers())) {
                due("private with a public name: " + method, shownNames.contains(method.getName()), false);
            }
        }
    }

    private static void testClassAndFields() {
        int modifiers = ReleaseRows.class.getModifiers();
        due("public and final", Modifier.isPublic(modifiers) && Modifier.isFinal(modifiers), true);
        Constructor<?>[] constructors = ReleaseRows.class.getDeclaredConstructors();
        due("constructors", constructors.length, 1);
        due("constructor is public", Modifier.isPublic(constructors[0].getModifiers()), true);
        due("constructor's parameters", constructors[0].getParameterCount(), 0);
        for (Field field : ReleaseRows.class.getDeclaredFields()) {
            due(field + " is private", Modifier.isPrivate(field.getModifiers()), true);
            if (Modifier.isStatic(field.getModifiers())) {
                due(field + " is final", Modifier.isFinal(field.getModifiers()), true);
            }
        }
        for (Class<?> inside : ReleaseRows.class.getDeclaredClasses()) {
            due(inside + " is static", Modifier.isStatic(inside.getModifiers()), true);
            due(inside + " is public", Modifier.isPublic(inside.getModifiers()), false);
        }
    }

    public static void main(String[] args) {
        testMethods();
        testClassAndFields();
        end();
    }
}
