import java.lang.reflect.Constructor;
import java.lang.reflect.Field;
import java.lang.reflect.Method;
import java.lang.reflect.Modifier;
import java.util.ArrayList;
import java.util.Arrays;
import java.util.Collections;
import java.util.List;

/** The class shows the document's face and nothing more (LANGUAGE.md, rules 1 and 5). */
public final class FaceTest {
    private static final String[] FACE = {
        "answer(int,int,int) IndexOutOfBoundsException IllegalArgumentException IllegalStateException",
        "answered(int) IndexOutOfBoundsException",
        "binding(int,int) IllegalArgumentException IndexOutOfBoundsException",
        "bindings(int) IllegalArgumentException",
        "branches(int) IndexOutOfBoundsException",
        "call(int) IllegalArgumentException IllegalStateException",
        "calls()",
        "cancel(int) IndexOutOfBoundsException IllegalStateException",
        "device(int,int) IndexOutOfBoundsException",
        "finalBySorting(int) IndexOutOfBoundsException IllegalStateException",
        "finalOf(int) IndexOutOfBoundsException",
        "hungUp(int) IllegalArgumentException",
        "pass(int) IllegalArgumentException",
        "register(int,int,int,int,int) IllegalArgumentException IllegalStateException",
        "state(int,int) IndexOutOfBoundsException",
        "time()",
    };

    private FaceTest() {
    }

    public static void main(String[] arguments) {
        Checks checks = new Checks("FaceTest");
        int modifiers = CallForker.class.getModifiers();
        checks.same("public final", modifiers, Modifier.PUBLIC | Modifier.FINAL);
        checkMethods(checks);
        checkConstructors(checks);
        for (Field field : CallForker.class.getDeclaredFields()) {
            checks.same("private field " + field, visibility(field.getModifiers()), Modifier.PRIVATE);
        }
        for (Class<?> inside : CallForker.class.getDeclaredClasses()) {
            checks.same("static class " + inside, inside.getModifiers() & Modifier.STATIC, Modifier.STATIC);
            checkInside(checks, inside);
        }
        checks.end();
    }

    private static int visibility(int modifiers) {
        return modifiers & (Modifier.PUBLIC | Modifier.PROTECTED | Modifier.PRIVATE);
    }

    private static void checkMethods(Checks checks) {
        List<String> shown = new ArrayList<>();
        for (Method method : CallForker.class.getDeclaredMethods()) {
            if (visibility(method.getModifiers()) != Modifier.PRIVATE) {
                shown.add(told(method));
                checks.same("an int of " + method, method.getReturnType().getName(), "int");
                checks.same("public " + method, method.getModifiers(), Modifier.PUBLIC);
            } else {
                checks.same("a name of its own: " + method, isNameOfFace(method.getName()) ? 1 : 0, 0);
            }
        }
        Collections.sort(shown);
        checks.same("the face", String.join("\n", shown), String.join("\n", FACE));
    }

    private static void checkConstructors(Checks checks) {
        Constructor<?>[] constructors = CallForker.class.getDeclaredConstructors();
        checks.same("constructors", constructors.length, 1);
        checks.same("its parameters", constructors[0].getParameterCount(), 0);
        checks.same("public constructor", constructors[0].getModifiers(), Modifier.PUBLIC);
    }

    private static void checkInside(Checks checks, Class<?> inside) {
        for (Method method : inside.getDeclaredMethods()) {
            checks.same("a name of its own: " + method, isNameOfFace(method.getName()) ? 1 : 0, 0);
        }
    }

    private static boolean isNameOfFace(String name) {
        return Arrays.stream(FACE).anyMatch(line -> line.startsWith(name + "("));
    }

    private static String told(Method method) {
        List<String> parameters = new ArrayList<>();
        for (Class<?> parameter : method.getParameterTypes()) {
            parameters.add(parameter.getName());
        }
        StringBuilder line = new StringBuilder(method.getName());
        line.append('(').append(String.join(",", parameters)).append(')');
        for (Class<?> thrown : method.getExceptionTypes()) {
            line.append(' ').append(thrown.getSimpleName());
        }
        return line.toString();
    }
}
