import java.lang.reflect.Constructor;
import java.lang.reflect.Field;
import java.lang.reflect.Method;
import java.lang.reflect.Modifier;
import java.util.ArrayList;
import java.util.Collections;
import java.util.List;

/** "The public face": the class has just the members that the document lists, with the exceptions that it lists. */
final class FaceTest {
    private static final String INDEX = "IndexOutOfBoundsException";
    private static final String ARGUMENT = "IllegalArgumentException";
    private static final String STATE = "IllegalStateException";

    private static final String[] FACE = {
        "int buy(int, int) " + INDEX + " " + ARGUMENT + " " + STATE,
        "int sell(int, int, int) " + INDEX + " " + ARGUMENT + " " + STATE,
        "int fill(int, int, int) " + INDEX + " " + ARGUMENT + " " + STATE,
        "int drain(int) " + INDEX + " " + STATE,
        "int pair(int, int) " + INDEX + " " + ARGUMENT + " " + STATE,
        "int wire(int) " + INDEX + " " + STATE,
        "int team(int) " + ARGUMENT + " " + STATE,
        "int place(int, int, int) " + INDEX + " " + STATE,
        "int setWater(int, int) " + INDEX + " " + ARGUMENT,
        "int about(int, int) " + INDEX,
        "int mould(int, int) " + INDEX,
        "int told(int, int) " + INDEX,
        "int post(int, int) " + INDEX,
        "int loft(int, int) " + INDEX,
        "int count(int) " + INDEX,
        "int pass(int) " + ARGUMENT,
        "int ripe(int, int) " + INDEX + " " + ARGUMENT,
        "int foresee(int, int) " + ARGUMENT + " " + INDEX,
        "int advise(int) " + INDEX,
        "double mean()",
        "long digest()",
    };

    public static void main(String[] args) {
        classIsPublicAndFinal();
        publicMethodsAreThose();
        allElseIsPrivate();
        noPrivateMethodHasAPublicName();
        Checks.end();
    }

    private static void dueText(String what, String want, String got) {
        if (!want.equals(got)) {
            Checks.fail(what + " is " + got + ", due is " + want);
        }
    }

    // "public final class RagVats", "public RagVats()"
    private static void classIsPublicAndFinal() {
        dueText("the class", "public final", Modifier.toString(RagVats.class.getModifiers()));
        dueText("its package", "", RagVats.class.getPackageName());
        dueText("what it extends", "Object", RagVats.class.getSuperclass().getSimpleName());
        Checks.due("interfaces", 0, RagVats.class.getInterfaces().length);
        Constructor<?>[] constructors = RagVats.class.getDeclaredConstructors();
        Checks.due("constructors", 1, constructors.length);
        dueText("the constructor", "public RagVats()", constructors[0].toString());
    }

    private static void publicMethodsAreThose() {
        List<String> want = new ArrayList<>(List.of(FACE));
        List<String> got = new ArrayList<>();
        for (Method method : RagVats.class.getDeclaredMethods()) {
            if (Modifier.isPublic(method.getModifiers())) {
                dueText(method.getName(), "public", Modifier.toString(method.getModifiers()));
                got.add(line(method));
            }
        }
        Collections.sort(want);
        Collections.sort(got);
        dueText("the face", String.join("\n", want), String.join("\n", got));
    }

    private static String line(Method method) {
        List<String> parameters = new ArrayList<>();
        for (Class<?> type : method.getParameterTypes()) {
            parameters.add(type.getSimpleName());
        }
        StringBuilder line = new StringBuilder(method.getReturnType().getSimpleName());
        line.append(' ').append(method.getName()).append('(').append(String.join(", ", parameters)).append(')');
        for (Class<?> thrown : method.getExceptionTypes()) {
            line.append(' ').append(thrown.getSimpleName());
        }
        return line.toString();
    }

    private static void allElseIsPrivate() {
        for (Method method : RagVats.class.getDeclaredMethods()) {
            int modifiers = method.getModifiers();
            if (!Modifier.isPublic(modifiers) && !Modifier.isPrivate(modifiers)) {
                Checks.fail("to be seen from outside: " + method);
            }
        }
        for (Field field : RagVats.class.getDeclaredFields()) {
            if (!Modifier.isPrivate(field.getModifiers())) {
                Checks.fail("to be seen from outside: " + field);
            }
            if (!Modifier.isFinal(field.getModifiers())) {
                Checks.fail("not final: " + field);
            }
        }
        for (Class<?> inside : RagVats.class.getDeclaredClasses()) {
            if (!Modifier.isPrivate(inside.getModifiers()) || !Modifier.isStatic(inside.getModifiers())) {
                Checks.fail("not private and static: " + inside);
            }
        }
    }

    private static void noPrivateMethodHasAPublicName() {
        List<Class<?>> all = new ArrayList<>(List.of(RagVats.class.getDeclaredClasses()));
        all.add(RagVats.class);
        for (Class<?> one : all) {
            for (Method method : one.getDeclaredMethods()) {
                if (Modifier.isPrivate(method.getModifiers()) && isOfTheFace(method.getName())) {
                    Checks.fail("has the name of a public one: " + method);
                }
            }
        }
    }

    private static boolean isOfTheFace(String name) {
        for (String line : FACE) {
            if (line.contains(" " + name + "(")) {
                return true;
            }
        }
        return false;
    }
}
