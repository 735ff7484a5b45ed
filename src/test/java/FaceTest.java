import java.lang.reflect.Constructor;
import java.lang.reflect.Executable;
import java.lang.reflect.Field;
import java.lang.reflect.Method;
import java.lang.reflect.Modifier;
import java.util.Set;
import java.util.TreeSet;

/** The public face is the document's, whole, and nothing else of the class can be seen from outside. */
public final class FaceTest {
    private static final String THROWS = " throws ArrayIndexOutOfBoundsException";
    private static final Set<String> FACE = Set.of(
            "LightRows(int, int)",
            "boolean join(int, int)" + THROWS,
            "boolean self(int, boolean)" + THROWS,
            "boolean set(int, int)" + THROWS,
            "boolean want(int, int)" + THROWS,
            "boolean press(int, int)" + THROWS,
            "int at(int)" + THROWS,
            "int apart()",
            "int rank()",
            "boolean solvable()",
            "int answer(int)" + THROWS,
            "int quiet(int, int)" + THROWS,
            "int count(int)",
            "int fewest()",
            "int best(int)" + THROWS,
            "boolean alone(int)" + THROWS,
            "void clear()");

    public static void main(String[] args) {
        Checks checks = new Checks();
        checks.same("the class", LightRows.class.getModifiers(), Modifier.PUBLIC | Modifier.FINAL);
        checks.same("what can be seen", visibleMembers().toString(), new TreeSet<>(FACE).toString());
        checkFields(checks);
        checkPrivateNames(checks, LightRows.class);
        for (Class<?> inside : LightRows.class.getDeclaredClasses()) {
            checks.same("static: " + inside, Modifier.isStatic(inside.getModifiers()), true);
            checkPrivateNames(checks, inside);
        }
        checks.end();
    }

    private static Set<String> visibleMembers() {
        Set<String> visible = new TreeSet<>();
        for (Constructor<?> constructor : LightRows.class.getDeclaredConstructors()) {
            addIfVisible(visible, constructor, "LightRows");
        }
        for (Method method : LightRows.class.getDeclaredMethods()) {
            addIfVisible(visible, method, method.getReturnType() + " " + method.getName());
        }
        return visible;
    }

    private static void addIfVisible(Set<String> visible, Executable member, String name) {
        int modifiers = member.getModifiers();
        if (!Modifier.isPrivate(modifiers)) {
            visible.add((Modifier.isPublic(modifiers) ? "" : "not public: ") + name + rest(member));
        }
    }

    private static String rest(Executable member) {
        StringBuilder text = new StringBuilder("(");
        for (Class<?> type : member.getParameterTypes()) {
            text.append(text.length() == 1 ? "" : ", ").append(type.getSimpleName());
        }
        text.append(")");
        for (Class<?> type : member.getExceptionTypes()) {
            text.append(" throws ").append(type.getSimpleName());
        }
        return text.toString();
    }

    private static void checkFields(Checks checks) {
        for (Field field : LightRows.class.getDeclaredFields()) {
            int modifiers = field.getModifiers();
            checks.same("private: " + field, Modifier.isPrivate(modifiers), true);
            checks.same("no static state: " + field,
                    !Modifier.isStatic(modifiers) || Modifier.isFinal(modifiers), true);
        }
    }

    private static void checkPrivateNames(Checks checks, Class<?> owner) {
        for (Method method : owner.getDeclaredMethods()) {
            boolean ofTheFace = owner == LightRows.class && Modifier.isPublic(method.getModifiers());
            checks.same("bears a public method's name: " + method,
                    !ofTheFace && isPublicName(method.getName()), false);
        }
    }

    private static boolean isPublicName(String name) {
        for (Method method : LightRows.class.getDeclaredMethods()) {
            if (Modifier.isPublic(method.getModifiers()) && method.getName().equals(name)) {
                return true;
            }
        }
        return false;
    }
}
