import java.lang.reflect.Constructor;
import java.lang.reflect.Field;
import java.lang.reflect.Method;
import java.lang.reflect.Modifier;
import java.util.Arrays;
import java.util.Set;
import java.util.TreeSet;

/** The document's face: each member of it is there as written, and no other is visible from outside. */
public final class FaceTest {
    private static final String[] FACE = {
        "int type(long, int) IllegalArgumentException UnsupportedOperationException",
        "void keep(int) IllegalArgumentException",
        "int typed(int) IndexOutOfBoundsException",
        "int key() IllegalArgumentException",
        "int tweak() IllegalArgumentException",
        "void block() IllegalArgumentException",
        "int radix(int) IllegalArgumentException",
        "int numeral(int) IllegalArgumentException UnsupportedOperationException",
        "void cut(int) IllegalArgumentException",
        "int set(int, int) IndexOutOfBoundsException IllegalArgumentException",
        "int at(int) IndexOutOfBoundsException",
        "boolean can(int) IllegalArgumentException",
        "void turn(int, boolean) IllegalArgumentException IllegalStateException",
        "int count(int) IndexOutOfBoundsException",
    };

    private static int wrong = 0;

    public static void main(String[] args) {
        Class<?> face = NumeralCipher.class;
        check(face.getModifiers() == (Modifier.PUBLIC | Modifier.FINAL), "the class is public and final");
        Constructor<?>[] constructors = face.getDeclaredConstructors();
        check(constructors.length == 1 && constructors[0].getModifiers() == Modifier.PUBLIC
            && constructors[0].getParameterCount() == 0, "one public constructor without parameters");
        checkMethods(face);
        for (Field field : face.getDeclaredFields()) {
            check(Modifier.isPrivate(field.getModifiers()), "private field " + field.getName());
        }
        checkNested(face);
        System.out.println(wrong == 0 ? "all answers are as due" : wrong + " answers are not as due");
        if (wrong != 0) {
            System.exit(1);
        }
    }

    private static void checkMethods(Class<?> face) {
        Set<String> due = new TreeSet<>(Arrays.asList(FACE));
        Set<String> names = new TreeSet<>();
        for (String line : FACE) {
            names.add(line.substring(line.indexOf(' ') + 1, line.indexOf('(')));
        }
        for (Method method : face.getDeclaredMethods()) {
            if (Modifier.isPrivate(method.getModifiers())) {
                check(!names.contains(method.getName()), "no private method is named " + method.getName());
            } else {
                check(due.remove(text(method)), "in the face: " + text(method));
            }
        }
        check(due.isEmpty(), "nothing of the face is missing: " + due);
    }

    private static void checkNested(Class<?> face) {
        for (Class<?> nested : face.getDeclaredClasses()) {
            int modifiers = nested.getModifiers();
            check(Modifier.isStatic(modifiers) && !Modifier.isPublic(modifiers) && !Modifier.isProtected(modifiers),
                "static and not visible: " + nested.getName());
            for (Field field : nested.getDeclaredFields()) {
                check(!Modifier.isStatic(field.getModifiers()) || Modifier.isFinal(field.getModifiers()),
                    "static fields are final: " + nested.getName() + "." + field.getName());
            }
        }
    }

    private static String text(Method method) {
        StringBuilder text = new StringBuilder();
        text.append(method.getReturnType().getName()).append(' ').append(method.getName()).append('(');
        Class<?>[] parameters = method.getParameterTypes();
        for (int k = 0; k < parameters.length; k++) {
            text.append(k == 0 ? "" : ", ").append(parameters[k].getName());
        }
        text.append(')');
        for (Class<?> thrown : method.getExceptionTypes()) {
            text.append(' ').append(thrown.getSimpleName());
        }
        return text.toString();
    }

    private static void check(boolean holds, String what) {
        if (!holds) {
            wrong++;
            System.out.println("not so: " + what);
        }
    }
}
