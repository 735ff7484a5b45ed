import java.lang.reflect.Constructor;
import java.lang.reflect.Executable;
import java.lang.reflect.Field;
import java.lang.reflect.Method;
import java.lang.reflect.Modifier;
import java.util.Set;
import java.util.TreeSet;

/** The public face is the document's, whole, and nothing else of the class can be seen from outside. */
public final class FaceTest {
    private static final String THROWS = " throws ArrayIndexOutOfBoundsException";

    public static void main(String[] args) {
        Checks checks = new Checks();
        Set<String> due = Set.of(
                "LightRows(int, int)",
                "boolean join(int, int)" + THROWS,
                "boolean self(int, boolean)" + THROWS,
                "boolean set(int, int)" + THROWS,
                "boolean want(int, int)" + THROWS,
                "boolean press(int, int)" + THROWS,
                "int at(int)" + THROWS,
                "int apart()",
                "int rank()",
                "boolean solvable()",
                "int answer(int)" + THROWS,
                "int quiet(int, int)" + THROWS,
                "int count(int)",
                "int fewest()",
                "int best(int)" + THROWS,
                "boolean alone(int)" + THROWS,
                "void clear()");
        Set<String> seen = new TreeSet<>();
        Set<String> hidden = new TreeSet<>();
        for (Constructor<?> made : LightRows.class.getDeclaredConstructors()) {
            sort(made, "LightRows" + tail(made), seen, hidden);
        }
        for (Method method : LightRows.class.getDeclaredMethods()) {
            sort(method, method.getReturnType() + " " + method.getName() + tail(method), seen, hidden);
        }
        checks.same("the face", seen.toString(), new TreeSet<>(due).toString());
        checks.same("public methods that bear a private one's name", sharedNames(), 0);
        checks.same("public and final", LightRows.class.getModifiers(), Modifier.PUBLIC | Modifier.FINAL);
        for (Field field : LightRows.class.getDeclaredFields()) {
            checks.same("private: " + field, Modifier.isPrivate(field.getModifiers()), true);
            checks.same("no static state: " + field,
                    !Modifier.isStatic(field.getModifiers()) || Modifier.isFinal(field.getModifiers()), true);
        }
        checks.end();
    }

    private static void sort(Executable member, String text, Set<String> seen, Set<String> hidden) {
        (Modifier.isPrivate(member.getModifiers()) ? hidden : seen).add(text);
        if (!Modifier.isPrivate(member.getModifiers()) && !Modifier.isPublic(member.getModifiers())) {
            seen.add("neither public nor private: " + text);
        }
    }

    private static String tail(Executable member) {
        StringBuilder text = new StringBuilder("(");
        for (Class<?> type : member.getParameterTypes()) {
            text.append(text.length() == 1 ? "" : ", ").append(type.getSimpleName());
        }
        text.append(")");
        for (Class<?> type : member.getExceptionTypes()) {
            text.append(" throws ").append(type.getSimpleName());
        }
        return text.toString();
    }

    private static int sharedNames() {
        int shared = 0;
        for (Method one : LightRows.class.getDeclaredMethods()) {
            for (Method other : LightRows.class.getDeclaredMethods()) {
                if (Modifier.isPublic(one.getModifiers()) && Modifier.isPrivate(other.getModifiers())
                        && one.getName().equals(other.getName())) {
                    shared++;
                }
            }
        }
        return shared;
    }
}
