import java.lang.reflect.Constructor;
import java.lang.reflect.Field;
import java.lang.reflect.Method;
import java.lang.reflect.Modifier;
import java.util.Arrays;
import java.util.Set;
import java.util.TreeSet;
import java.util.stream.Collectors;

/** The class has the document's face and shows nothing else; no private method has a face's name. */
public final class FaceTest {
    private static final String NO_POINT = "IndexOutOfBoundsException";
    private static final String BAD_ARGUMENT = "IllegalArgumentException";
    private static final String BAD_STATE = "IllegalStateException";
    private static final Set<String> DUE = Set.of(
            "int size() []",
            "int at(int) [" + NO_POINT + "]",
            "boolean put(int, int) [" + NO_POINT + ", " + BAD_ARGUMENT + ", " + BAD_STATE + "]",
            "void first(int) [" + BAD_ARGUMENT + ", " + BAD_STATE + "]",
            "int turn() []",
            "int play(int) [" + NO_POINT + ", " + BAD_STATE + "]",
            "int why(int) [" + NO_POINT + "]",
            "int allowed() []",
            "boolean pass() [" + BAD_STATE + "]",
            "int back() [" + BAD_STATE + "]",
            "int moves() []",
            "int move(int) [" + NO_POINT + "]",
            "int taken(int) [" + BAD_ARGUMENT + "]",
            "int string(int, int) [" + NO_POINT + ", " + BAD_ARGUMENT + "]",
            "int strings(int) [" + BAD_ARGUMENT + "]",
            "int ground(int) [" + BAD_ARGUMENT + "]",
            "int owner(int) [" + NO_POINT + "]",
            "boolean alive(int) [" + NO_POINT + "]",
            "int safe(int) [" + BAD_ARGUMENT + "]",
            "int ago(int) [" + NO_POINT + "]");

    public static void main(String[] args) {
        Checks is = new Checks();
        int kind = StoneBoard.class.getModifiers();
        is.yes("the class is public and final", Modifier.isPublic(kind) && Modifier.isFinal(kind));
        checkMethods(is);
        for (Field field : StoneBoard.class.getDeclaredFields()) {
            is.yes(field + " is private", Modifier.isPrivate(field.getModifiers()));
        }
        Constructor<?>[] constructors = StoneBoard.class.getDeclaredConstructors();
        is.same("number of constructors", constructors.length, 1);
        is.yes("the constructor is public", Modifier.isPublic(constructors[0].getModifiers()));
        is.yes("the constructor takes n",
                Arrays.equals(constructors[0].getParameterTypes(), new Class<?>[] {int.class}));
        checkInside(is);
        is.end("FaceTest");
    }

    private static void checkMethods(Checks is) {
        Set<String> shown = new TreeSet<>();
        for (Method method : StoneBoard.class.getDeclaredMethods()) {
            if (Modifier.isPublic(method.getModifiers())) {
                shown.add(described(method));
            } else {
                is.yes(method + " is private", Modifier.isPrivate(method.getModifiers()));
                is.no(method + " has a face's name", isFaceName(method.getName()));
            }
        }
        for (String due : DUE) {
            is.yes("the face has " + due, shown.contains(due));
        }
        is.same("number of methods shown", shown.size(), DUE.size());
    }

    private static void checkInside(Checks is) {
        for (Class<?> inside : StoneBoard.class.getDeclaredClasses()) {
            int kind = inside.getModifiers();
            is.yes(inside + " is static", Modifier.isStatic(kind));
            is.no(inside + " is shown", Modifier.isPublic(kind) || Modifier.isProtected(kind));
            for (Method method : inside.getDeclaredMethods()) {
                is.no(method + " has a face's name", isFaceName(method.getName()));
            }
            for (Field field : inside.getDeclaredFields()) {
                int how = field.getModifiers();
                is.yes(field + " is no static state", !Modifier.isStatic(how) || Modifier.isFinal(how));
            }
        }
    }

    private static boolean isFaceName(String name) {
        return DUE.stream().anyMatch(due -> due.contains(" " + name + "("));
    }

    private static String described(Method method) {
        return method.getReturnType().getSimpleName() + " " + method.getName() + "("
                + names(method.getParameterTypes()) + ") [" + names(method.getExceptionTypes()) + "]";
    }

    private static String names(Class<?>[] types) {
        return Arrays.stream(types).map(Class::getSimpleName).collect(Collectors.joining(", "));
    }
}
