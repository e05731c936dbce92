import java.lang.reflect.Constructor;
import java.lang.reflect.Field;
import java.lang.reflect.Method;
import java.lang.reflect.Modifier;
import java.util.ArrayList;
import java.util.Arrays;
import java.util.List;
import java.util.Set;
import java.util.TreeSet;

/** The public face is the document's, and nothing else of the class can be seen from outside. */
public final class FaceTest {
    private static final List<String> METHODS = List.of(
        "boolean put(int, int) IndexOutOfBoundsException IllegalArgumentException",
        "boolean take(int, int) IndexOutOfBoundsException IllegalArgumentException",
        "int clear(int) IndexOutOfBoundsException",
        "int combine(int, int, int, int) IndexOutOfBoundsException IllegalArgumentException ArithmeticException",
        "int change(int, int, int, int) IndexOutOfBoundsException IllegalArgumentException",
        "int extreme(int, int, boolean) IndexOutOfBoundsException",
        "int sized(int, int, int) IndexOutOfBoundsException IllegalArgumentException",
        "void edge(int, int, int) IndexOutOfBoundsException IllegalArgumentException",
        "boolean cut(int) IndexOutOfBoundsException",
        "int paths(int, int, int) IndexOutOfBoundsException",
        "int matchings(int) IndexOutOfBoundsException",
        "int weight(int, int) IndexOutOfBoundsException IllegalArgumentException",
        "int count(int) IndexOutOfBoundsException",
        "boolean has(int, int) IndexOutOfBoundsException IllegalArgumentException",
        "int nth(int, int) IndexOutOfBoundsException",
        "int rank(int, int) IndexOutOfBoundsException IllegalArgumentException",
        "int heaviest(int) IndexOutOfBoundsException NoSuchElementException",
        "int size(int) IndexOutOfBoundsException",
        "int parts(int) IndexOutOfBoundsException");

    public static void main(String[] args) {
        Checks checks = new Checks();
        checkMethods(checks);
        checkRest(checks);
        checkInside(checks);
        checks.end("FaceTest");
    }

    private static void checkMethods(Checks checks) {
        List<String> open = new ArrayList<>();
        for (Method method : FamilyShelf.class.getDeclaredMethods()) {
            if (!Modifier.isPrivate(method.getModifiers())) {
                open.add(written(method));
            }
        }
        checks.due("the methods", new TreeSet<>(open).toString(), new TreeSet<>(METHODS).toString());
    }

    private static String written(Method method) {
        List<String> types = Arrays.stream(method.getParameterTypes()).map(Class::getSimpleName).toList();
        StringBuilder text = new StringBuilder(method.getReturnType() + " " + method.getName());
        text.append("(").append(String.join(", ", types)).append(")");
        for (Class<?> thrown : method.getExceptionTypes()) {
            text.append(" ").append(thrown.getSimpleName());
        }
        return text.toString();
    }

    private static void checkRest(Checks checks) {
        checks.due("NONE", FamilyShelf.NONE, -1);
        checks.due("the class", Modifier.toString(FamilyShelf.class.getModifiers()), "public final");
        for (Field field : FamilyShelf.class.getDeclaredFields()) {
            String due = field.getName().equals("NONE") ? "public static final" : "private";
            checks.due(field.getName(), Modifier.toString(field.getModifiers()).startsWith(due), true);
        }
        Constructor<?>[] made = FamilyShelf.class.getDeclaredConstructors();
        checks.due("constructors", made.length, 1);
        checks.due("the constructor", made[0].toString(), "public FamilyShelf()");
    }

    private static void checkInside(Checks checks) {
        Set<String> face = new TreeSet<>();
        for (Method method : FamilyShelf.class.getMethods()) {
            face.add(method.getName());
        }
        for (Method method : FamilyShelf.class.getDeclaredMethods()) {
            boolean hidden = Modifier.isPrivate(method.getModifiers());
            checks.due(method + " bears a name of the face", hidden && face.contains(method.getName()), false);
        }
        for (Class<?> inside : FamilyShelf.class.getDeclaredClasses()) {
            checks.due(inside + " is static", Modifier.isStatic(inside.getModifiers()), true);
            for (Method method : inside.getDeclaredMethods()) {
                checks.due(method + " bears a name of the face", face.contains(method.getName()), false);
            }
        }
    }
}
