import java.lang.reflect.Constructor;
import java.lang.reflect.Field;
import java.lang.reflect.Method;
import java.lang.reflect.Modifier;
import java.util.Set;
import java.util.TreeSet;

/** The face is the document's and no more, and what can be seen of LANGUAGE.md from outside. */
public final class FlaghallFaceTest {
    private static final String I = "IndexOutOfBoundsException";
    private static final String A = "IllegalArgumentException";
    private static final String S = "IllegalStateException";

    private static final String[] METHODS = {
        "int letter(char) " + A + " " + S, "int person(int) " + I + " " + S, "int company() " + S,
        "int part(int int int) " + I + " " + A + " " + S, "int land(int) " + I, "int ship(int) " + I + " " + S,
        "int sell(int int int int) " + I + " " + A + " " + S, "int fly(int int) " + I + " " + S,
        "int notice(int int) " + I + " " + S, "int mortgage(int int int) " + I + " " + A + " " + S,
        "void discharge(int boolean) " + I + " " + S, "int lien(int int int int) " + I + " " + A + " " + S,
        "long court(int int int) " + I + " " + A + " " + S, "long pass(int) " + A, "int share(int int) " + I,
        "char sound(int int) " + I, "int flag(int) " + I, "int rank(int) " + I,
        "int search(int long int) " + I + " " + A, "long got(int) " + I, "int liens(int) " + I,
    };

    private static int wrong = 0;

    private static void check(boolean holds, String what) {
        if (!holds) {
            wrong++;
            System.out.println("wrong: " + what);
        }
    }

    public static void main(String[] args) {
        Class<?> face = Flaghall.class;
        check(Modifier.isPublic(face.getModifiers()) && Modifier.isFinal(face.getModifiers()), "the class");
        Constructor<?>[] constructors = face.getDeclaredConstructors();
        check(constructors.length == 1 && Modifier.isPublic(constructors[0].getModifiers())
                && constructors[0].getParameterCount() == 0, "the constructor");
        Set<String> publicNames = checkMethods(face);
        checkFields(face);
        for (Class<?> inside : face.getDeclaredClasses()) {
            check(Modifier.isStatic(inside.getModifiers()) && !Modifier.isPublic(inside.getModifiers())
                    && !Modifier.isProtected(inside.getModifiers()), "the class " + inside);
            for (Method method : inside.getDeclaredMethods()) {
                check(!publicNames.contains(method.getName()), "a name of the face inside, " + method);
            }
        }
        System.out.println(wrong == 0 ? "the face is the document's" : wrong + " things are wrong");
        if (wrong != 0) {
            System.exit(1);
        }
    }

    private static Set<String> checkMethods(Class<?> face) {
        Set<String> due = new TreeSet<>(Set.of(METHODS));
        Set<String> names = new TreeSet<>();
        for (Method method : face.getDeclaredMethods()) {
            if (Modifier.isPrivate(method.getModifiers())) {
                continue;
            }
            names.add(method.getName());
            check(Modifier.isPublic(method.getModifiers()) && !Modifier.isStatic(method.getModifiers()), method + "");
            check(due.remove(written(method)), written(method));
        }
        check(due.isEmpty(), "missing " + due);
        for (Method method : face.getDeclaredMethods()) {
            check(!Modifier.isPrivate(method.getModifiers()) || !names.contains(method.getName()),
                    "a private method with a name of the face, " + method);
        }
        return names;
    }

    private static String written(Method method) {
        StringBuilder text = new StringBuilder();
        text.append(method.getReturnType().getSimpleName()).append(' ').append(method.getName()).append('(');
        for (int i = 0; i < method.getParameterCount(); i++) {
            text.append(i == 0 ? "" : " ").append(method.getParameterTypes()[i].getSimpleName());
        }
        text.append(')');
        for (Class<?> thrown : method.getExceptionTypes()) {
            text.append(' ').append(thrown.getSimpleName());
        }
        return text.toString();
    }

    private static void checkFields(Class<?> face) {
        for (Field field : face.getDeclaredFields()) {
            boolean isNone = field.getName().equals("NONE");
            check(Modifier.isPrivate(field.getModifiers()) != isNone, "the field " + field);
            if (Modifier.isStatic(field.getModifiers())) {
                check(Modifier.isFinal(field.getModifiers()), "a static field that is not final, " + field);
            }
            if (isNone) {
                check(field.getType() == int.class && Modifier.isPublic(field.getModifiers())
                        && Modifier.isStatic(field.getModifiers()), "NONE");
            }
        }
    }
}
