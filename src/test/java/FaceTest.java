import java.lang.reflect.Constructor;
import java.lang.reflect.Field;
import java.lang.reflect.Method;
import java.lang.reflect.Modifier;
import java.util.Arrays;
import java.util.Set;
import java.util.TreeSet;

/** The class has the document's face, and nothing else that others can see. */
public final class FaceTest {
    private static final Set<String> METHODS = new TreeSet<>(Arrays.asList(
            "int gate(int, int, int) throws IndexOutOfBoundsException, IllegalArgumentException,"
                    + " UnsupportedOperationException",
            "int line() throws UnsupportedOperationException",
            "boolean literal(int, int) throws IndexOutOfBoundsException, IllegalArgumentException,"
                    + " UnsupportedOperationException",
            "int equalLine(int, int) throws IndexOutOfBoundsException, UnsupportedOperationException",
            "int check(int) throws IndexOutOfBoundsException",
            "boolean good(int) throws IndexOutOfBoundsException",
            "int lineAt(int, int) throws IndexOutOfBoundsException",
            "int implied(int, int, int, int) throws IndexOutOfBoundsException",
            "int shorten(int) throws IndexOutOfBoundsException",
            "boolean holds(int, long) throws IndexOutOfBoundsException",
            "int text(int) throws IndexOutOfBoundsException",
            "boolean unit(int)",
            "int read()",
            "int count(int) throws IndexOutOfBoundsException",
            "void clear()"));

    public static void main(String[] args) throws Exception {
        Expect expect = new Expect("face");
        Class<ProofLines> face = ProofLines.class;
        expect.same("public and final", Modifier.toString(face.getModifiers()), "public final");
        expect.same("package", face.getPackageName(), "");
        expect.same("methods", visibleMethods(face), METHODS);
        expect.same("fields", visibleFields(face), new TreeSet<>(Arrays.asList("public static final int NONE")));
        expect.same("NONE", ProofLines.NONE, -1);
        Constructor<?>[] constructors = face.getDeclaredConstructors();
        expect.same("constructors", constructors.length, 1);
        expect.same("constructor", constructors[0].toString(), "public ProofLines()");
        checkInside(expect, face);
        expect.end();
    }

    private static void checkInside(Expect expect, Class<?> face) {
        Set<String> names = new TreeSet<>();
        for (Method method : face.getMethods()) {
            names.add(method.getName());
        }
        for (Class<?> inside : face.getDeclaredClasses()) {
            expect.same(inside + " is static", Modifier.isStatic(inside.getModifiers()), true);
            for (Method method : inside.getDeclaredMethods()) {
                String name = method.getName();
                expect.same(inside + " has a public name, " + name, names.contains(name), false);
            }
        }
    }

    private static Set<String> visibleMethods(Class<?> face) {
        Set<String> seen = new TreeSet<>();
        for (Method method : face.getDeclaredMethods()) {
            if (!Modifier.isPrivate(method.getModifiers())) {
                seen.add(signature(method));
            }
        }
        return seen;
    }

    private static String signature(Method method) {
        StringBuilder out = new StringBuilder();
        out.append(method.getReturnType().getSimpleName()).append(' ').append(method.getName()).append('(');
        out.append(names(method.getParameterTypes())).append(')');
        if (method.getExceptionTypes().length > 0) {
            out.append(" throws ").append(names(method.getExceptionTypes()));
        }
        return out.toString();
    }

    private static String names(Class<?>[] types) {
        StringBuilder out = new StringBuilder();
        for (Class<?> type : types) {
            out.append(out.length() == 0 ? "" : ", ").append(type.getSimpleName());
        }
        return out.toString();
    }

    private static Set<String> visibleFields(Class<?> face) {
        Set<String> seen = new TreeSet<>();
        for (Field field : face.getDeclaredFields()) {
            if (!Modifier.isPrivate(field.getModifiers())) {
                seen.add(Modifier.toString(field.getModifiers()) + " " + field.getType() + " " + field.getName());
            }
        }
        return seen;
    }
}
