import java.lang.reflect.Constructor;
import java.lang.reflect.Field;
import java.lang.reflect.Method;
import java.lang.reflect.Modifier;
import java.util.Arrays;
import java.util.Set;
import java.util.TreeSet;

/** The class has the document's public face, and no other member that is not private. */
public final class FaceTest {
    private static final String[] FACE = {
        "int file(long, int)",
        "int runnable(int)",
        "int make(int, int)",
        "int power(int)",
        "int run(int, int)",
        "int beside(int, int)",
        "long port(int, int)",
        "int set(int, int, long)",
        "long cell(int, int, int)",
        "int reaction(int, int)",
        "int update(int, int)",
        "int reset(int)",
        "int fault(int, int)",
        "boolean same(int, int, int)",
        "int handle(int, int) IllegalStateException",
        "byte octet(int, int) ArrayIndexOutOfBoundsException",
        "long divide(long, long) ArithmeticException",
        "int refused()",
    };

    private static int wrong = 0;

    public static void main(String[] args) {
        Class<?> c = RunClasses.class;
        due("the class", c.getModifiers() & (Modifier.PUBLIC | Modifier.FINAL),
                Modifier.PUBLIC | Modifier.FINAL);
        due("methods", faceOf(c), new TreeSet<>(Arrays.asList(FACE)));
        due("constructors", Arrays.toString(c.getDeclaredConstructors()),
                "[public RunClasses(int)]");
        privateNames(c);
        fields(c);
        insideOnes(c);
        System.out.println(wrong == 0 ? "the face is as due" : wrong + " wrong");
        if (wrong != 0) {
            System.exit(1);
        }
    }

    private static void due(String what, Object got, Object want) {
        if (!got.equals(want)) {
            wrong++;
            System.out.println(what + ": " + got + ", due is " + want);
        }
    }

    private static Set<String> faceOf(Class<?> c) {
        Set<String> face = new TreeSet<>();
        for (Method m : c.getDeclaredMethods()) {
            if (!Modifier.isPrivate(m.getModifiers()) && !m.isSynthetic()) {
                face.add(textOf(m));
                due("public: " + m, Modifier.isPublic(m.getModifiers()), true);
                due("of an object: " + m, Modifier.isStatic(m.getModifiers()), false);
            }
        }
        return face;
    }

    private static String textOf(Method m) {
        StringBuilder text = new StringBuilder();
        text.append(m.getReturnType()).append(' ').append(m.getName()).append('(');
        String between = "";
        for (Class<?> p : m.getParameterTypes()) {
            text.append(between).append(p);
            between = ", ";
        }
        text.append(')');
        for (Class<?> e : m.getExceptionTypes()) {
            text.append(' ').append(e.getSimpleName());
        }
        return text.toString();
    }

    private static void privateNames(Class<?> c) {
        Set<String> names = new TreeSet<>();
        for (String line : FACE) {
            names.add(line.substring(line.indexOf(' ') + 1, line.indexOf('(')));
        }
        for (Method m : c.getDeclaredMethods()) {
            boolean hidden = Modifier.isPrivate(m.getModifiers());
            due("a name of the face: " + m, hidden && names.contains(m.getName()), false);
            due("parameters of " + m, m.getParameterCount() <= 7, true);
        }
    }

    private static void fields(Class<?> c) {
        for (Field f : c.getDeclaredFields()) {
            int m = f.getModifiers();
            due("private: " + f, Modifier.isPrivate(m), true);
            due("final if static: " + f, !Modifier.isStatic(m) || Modifier.isFinal(m), true);
        }
    }

    private static void insideOnes(Class<?> c) {
        for (Class<?> inside : c.getDeclaredClasses()) {
            int m = inside.getModifiers();
            due("hidden: " + inside, !Modifier.isPublic(m) && !Modifier.isProtected(m), true);
            due("static: " + inside, Modifier.isStatic(m), true);
            if (!inside.isEnum()) {
                for (Field f : inside.getDeclaredFields()) {
                    due("no static state: " + f, Modifier.isStatic(f.getModifiers()), false);
                }
            }
            for (Constructor<?> made : inside.getDeclaredConstructors()) {
                due("hidden: " + made, Modifier.isPublic(made.getModifiers()), false);
            }
        }
    }
}
