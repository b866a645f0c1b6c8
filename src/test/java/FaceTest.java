import java.lang.reflect.Constructor;
import java.lang.reflect.Field;
import java.lang.reflect.Method;
import java.lang.reflect.Modifier;
import java.util.Arrays;
import java.util.Set;
import java.util.TreeSet;

/** The public face is the document's, and nothing else can be seen from outside. */
final class FaceTest {
    private static final String[] FACE = {
        "boolean create(int, int)",
        "int append(int, int, int, long) IllegalArgumentException NoSuchElementException IllegalStateException",
        "boolean delete(int, int) NoSuchElementException IllegalStateException",
        "int size(int, int)",
        "int at(int, int, int) NoSuchElementException IndexOutOfBoundsException",
        "int put(int, int, int, int, int, int) IllegalArgumentException NoSuchElementException IllegalStateException",
        "boolean cancel(int, int)",
        "boolean suspend(int, int, boolean)",
        "int tick()",
        "boolean deliver(int)",
        "boolean lose(int)",
        "boolean copy(int)",
        "boolean spoil(int, int)",
        "int units()",
        "int unit(int, int)",
        "int sender(int, int)",
        "int receiver(int, int)",
        "int request(int, int)",
    };

    private FaceTest() {
    }

    public static void main(String[] args) {
        Class<FileDelivery> face = FileDelivery.class;
        Check.same("public and final", Modifier.isPublic(face.getModifiers()) && Modifier.isFinal(face.getModifiers()), true);
        Set<String> seen = new TreeSet<>();
        Set<String> names = new TreeSet<>();
        for (Method method : face.getDeclaredMethods()) {
            if (!Modifier.isPrivate(method.getModifiers())) {
                seen.add(told(method));
                names.add(method.getName());
            }
        }
        Check.same("methods", seen, new TreeSet<>(Arrays.asList(FACE)));
        for (Constructor<?> made : face.getDeclaredConstructors()) {
            Check.same("constructor", Modifier.isPublic(made.getModifiers()) && typesOf(made.getParameterTypes()).equals("(int)"), true);
        }
        for (Field field : face.getDeclaredFields()) {
            Check.same("field " + field.getName() + " is private", Modifier.isPrivate(field.getModifiers()), true);
        }
        checkInside(face, names);
        Check.end();
    }

    private static void checkInside(Class<?> face, Set<String> names) {
        for (Class<?> inside : face.getDeclaredClasses()) {
            int modifiers = inside.getModifiers();
            boolean hidden = !Modifier.isPublic(modifiers) && !Modifier.isProtected(modifiers);
            Check.same(inside + " is hidden and static", hidden && Modifier.isStatic(modifiers), true);
        }
        for (Method method : face.getDeclaredMethods()) {
            if (Modifier.isPrivate(method.getModifiers())) {
                Check.same(method + " bears a name of the face", names.contains(method.getName()), false);
            }
        }
    }

    private static String told(Method method) {
        StringBuilder text = new StringBuilder();
        text.append(Modifier.isPublic(method.getModifiers()) ? "" : "hidden ");
        text.append(Modifier.isStatic(method.getModifiers()) ? "static " : "");
        text.append(method.getReturnType().getSimpleName()).append(' ').append(method.getName());
        text.append(typesOf(method.getParameterTypes()));
        for (Class<?> thrown : method.getExceptionTypes()) {
            text.append(' ').append(thrown.getSimpleName());
        }
        return text.toString();
    }

    private static String typesOf(Class<?>[] types) {
        StringBuilder text = new StringBuilder("(");
        for (Class<?> type : types) {
            text.append(text.length() > 1 ? ", " : "").append(type.getSimpleName());
        }
        return text.append(')').toString();
    }
}
