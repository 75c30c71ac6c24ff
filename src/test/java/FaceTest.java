import java.lang.reflect.Constructor;
import java.lang.reflect.Field;
import java.lang.reflect.Method;
import java.lang.reflect.Modifier;
import java.util.ArrayList;
import java.util.Arrays;
import java.util.List;
import java.util.NoSuchElementException;
import java.util.TreeSet;

/** The public face as the document prints it, and those of LANGUAGE.md's rules that reflection can see. */
public final class FaceTest {
    private static final String[] FACE = {
        "int feed(int, int, int, int, int)", "boolean end(int)", "int fault(int)", "int text(int)", "int value(int)",
        "int customer(int, int)", "boolean lay(int, int)", "int lift(int)", "int coin(int, int)", "int tray(int)",
        "long till()", "long result(int, int)", "int serve(int, int)", "int row(int)", "long left(int, int)",
        "int aside(int)", "int steps(int)", "int most()", "long dawn(int, int)", "int breaks(int)", "int by(int, int)",
        "int gives(int, int)", "int run(int, int)", "int worst(int, int)", "int day(int, int, long)",
        "int best(int, int, long)", "int served(int)", "int cover(int)", "int change(int, int)", "int amounts()",
        "int helps(int)", "int spoils(int)", "int wise(int, int)", "int rich(int, int)", "int chain()",
        "int mean(int, int, int, int)", "int image()", "int back()", "int count(int)"};
    private static int wrong = 0;

    private FaceTest() {
    }

    public static void main(String[] args) throws ReflectiveOperationException {
        Class<?> face = TillPipe.class;
        due(face.getModifiers() == (Modifier.PUBLIC | Modifier.FINAL), "public and final");
        due(face.getSuperclass() == Object.class && face.getInterfaces().length == 0, "no class above it");
        methods(face);
        constants(face);
        Constructor<?>[] made = face.getDeclaredConstructors();
        due(made.length == 1 && made[0].getParameterCount() == 0 && Modifier.isPublic(made[0].getModifiers()), "one constructor");
        Class<?>[] inside = face.getDeclaredClasses();
        due(inside.length <= 12, "some twelve classes, not " + inside.length);
        for (Class<?> one : inside) {
            int how = one.getModifiers();
            due(Modifier.isStatic(how) && !Modifier.isPublic(how) && !Modifier.isProtected(how), "inside: " + one);
            limits(one);
        }
        limits(face);
        System.out.println(wrong == 0 ? "the face is as printed" : wrong + " wrong");
        if (wrong > 0) {
            System.exit(1);
        }
    }

    private static void due(boolean so, String what) {
        if (!so) {
            wrong++;
            System.out.println("not so: " + what);
        }
    }

    private static void methods(Class<?> face) throws NoSuchMethodException {
        TreeSet<String> found = new TreeSet<>();
        TreeSet<String> names = new TreeSet<>();
        for (Method m : face.getDeclaredMethods()) {
            if (!Modifier.isPrivate(m.getModifiers())) {
                due(m.getModifiers() == Modifier.PUBLIC, "public alone: " + m);
                List<String> types = new ArrayList<>();
                for (Class<?> type : m.getParameterTypes()) {
                    types.add(type.toString());
                }
                found.add(m.getReturnType() + " " + m.getName() + "(" + String.join(", ", types) + ")");
                names.add(m.getName());
                boolean throwing = m.getName().equals("value");
                due(m.getExceptionTypes().length == (throwing ? 1 : 0), "throws of " + m);
            }
        }
        due(found.equals(new TreeSet<>(Arrays.asList(FACE))), "the methods are " + found);
        due(face.getMethod("value", int.class).getExceptionTypes()[0] == NoSuchElementException.class, "value throws");
        for (Class<?> one : face.getDeclaredClasses()) {
            privateNames(one, names);
        }
        privateNames(face, names);
    }

    private static void privateNames(Class<?> one, TreeSet<String> names) {
        for (Method m : one.getDeclaredMethods()) {
            due(Modifier.isPublic(m.getModifiers()) || !names.contains(m.getName()), "a name of the face's: " + m);
        }
    }

    private static void constants(Class<?> face) throws IllegalAccessException {
        int seen = 0;
        for (Field f : face.getDeclaredFields()) {
            if (!Modifier.isPrivate(f.getModifiers())) {
                due(f.getModifiers() == (Modifier.PUBLIC | Modifier.STATIC | Modifier.FINAL), "a constant: " + f);
                due(f.getName().equals("NONE") && f.getInt(null) == -1
                    || f.getName().equals("HIDDEN") && f.getInt(null) == -2, "this constant: " + f);
                seen++;
            }
        }
        due(seen == 2, "two constants");
    }

    private static void limits(Class<?> one) {
        int fields = 0;
        for (Field f : one.getDeclaredFields()) {
            if (Modifier.isStatic(f.getModifiers())) {
                due(Modifier.isFinal(f.getModifiers()), "static and not final: " + f);
            } else {
                fields++;
            }
        }
        due(fields <= 20, fields + " fields in " + one);
        for (Method m : one.getDeclaredMethods()) {
            due(m.getParameterCount() <= 7, "parameters of " + m);
        }
    }
}
