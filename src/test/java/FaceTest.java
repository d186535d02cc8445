import java.lang.reflect.Field;
import java.lang.reflect.Method;
import java.lang.reflect.Modifier;
import java.util.Arrays;
import java.util.Set;
import java.util.TreeSet;

/** The public face: what the document names, and no other member that is not private. */
public final class FaceTest {
    private static final String[] FACE = {
        "int sign(long, int) IllegalArgumentException UnsupportedOperationException",
        "int read()",
        "int span(int, int, int) IndexOutOfBoundsException",
        "int limit(int, int) IndexOutOfBoundsException",
        "long equivalent(int, int, int, int) IndexOutOfBoundsException IllegalStateException",
        "void share(int, int) IndexOutOfBoundsException IllegalArgumentException",
        "long value(int, int) IndexOutOfBoundsException IllegalStateException",
        "int fits(int) IndexOutOfBoundsException",
        "boolean holds(int, int) IndexOutOfBoundsException",
        "int ring(int) IndexOutOfBoundsException",
        "int route(int, int) IndexOutOfBoundsException",
        "int difference(int, int, int) IndexOutOfBoundsException",
        "int write(int) IndexOutOfBoundsException",
        "int at(int) IndexOutOfBoundsException",
        "void clear()",
    };

    public static void main(String[] args) {
        Set<String> got = new TreeSet<>();
        for (Method m : GradeTexts.class.getDeclaredMethods()) {
            if (!Modifier.isPrivate(m.getModifiers())) {
                Check.same(m.getName() + " is public", Modifier.isPublic(m.getModifiers()), true);
                got.add(form(m));
            }
        }
        Check.same("the methods", got, new TreeSet<>(Arrays.asList(FACE)));
        for (Field f : GradeTexts.class.getDeclaredFields()) {
            Check.same(f.getName() + " is private", Modifier.isPrivate(f.getModifiers()), true);
        }
        Check.same("the class is public and final", GradeTexts.class.getModifiers(), Modifier.PUBLIC | Modifier.FINAL);
        Check.same("public constructors", GradeTexts.class.getConstructors().length, 1);
        Check.same("all constructors", GradeTexts.class.getDeclaredConstructors().length, 1);
        for (Class<?> inside : GradeTexts.class.getDeclaredClasses()) {
            Check.same(inside.getName() + " is static", Modifier.isStatic(inside.getModifiers()), true);
            Check.same(inside.getName() + " is public", Modifier.isPublic(inside.getModifiers()), false);
        }
        Check.end();
    }

    private static String form(Method m) {
        StringBuilder text = new StringBuilder(m.getReturnType() + " " + m.getName() + "(");
        for (int i = 0; i < m.getParameterCount(); i++) {
            text.append(i == 0 ? "" : ", ").append(m.getParameterTypes()[i]);
        }
        text.append(")");
        for (Class<?> thrown : m.getExceptionTypes()) {
            text.append(" ").append(thrown.getSimpleName());
        }
        return text.toString();
    }
}
