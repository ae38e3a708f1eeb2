import java.lang.reflect.Constructor;
import java.lang.reflect.Field;
import java.lang.reflect.Method;
import java.lang.reflect.Modifier;
import java.util.Set;
import java.util.TreeSet;

/** "The public face": the methods, the constructor and the constants of the document, and no others. */
final class FaceTest {
    private static final String[] METHODS = {
        "int add(int, int)", "int load()", "int remove(int)", "int change(int, int, int)", "int move(int, int)",
        "int choose(int, boolean, int)", "int plan()", "int set(int, int)", "int type(char)", "int clearText()",
        "int undo()", "int keep()", "int restore()", "int lot(int, int)", "int page(int, int)",
        "int gathering(int, int)", "int ifChosen(int, boolean, int)", "int cheapest(int, int)", "int leastCost(int)",
        "int count(int)"};
    private static final String[] CONSTANTS = {"int UNKNOWN = -1", "int BAD_VALUE = -2", "int FULL = -3",
        "int NOT_POSSIBLE = -4", "int NONE = -5"};

    public static void main(String[] args) throws IllegalAccessException {
        Checks.same("the methods", sorted(METHODS), methods());
        Checks.same("the constants", sorted(CONSTANTS), constants());
        Constructor<?>[] constructors = FacingPlates.class.getDeclaredConstructors();
        Checks.due("constructors", 1, constructors.length);
        Checks.due("a public constructor", Modifier.PUBLIC, constructors[0].getModifiers());
        Checks.due("parameters of the constructor", 0, constructors[0].getParameterCount());
        Checks.due("a public final class", Modifier.PUBLIC | Modifier.FINAL, FacingPlates.class.getModifiers());
        Checks.due("interfaces", 0, FacingPlates.class.getInterfaces().length);
        Checks.same("the class above", "java.lang.Object", FacingPlates.class.getSuperclass().getName());
        Checks.finish();
    }

    private static String sorted(String[] members) {
        return String.join("; ", new TreeSet<>(Set.of(members)));
    }

    private static String methods() {
        Set<String> methods = new TreeSet<>();
        for (Method method : FacingPlates.class.getDeclaredMethods()) {
            if (!Modifier.isPrivate(method.getModifiers())) {
                StringBuilder out = new StringBuilder(method.getReturnType() + " " + method.getName() + "(");
                for (Class<?> type : method.getParameterTypes()) {
                    out.append(out.charAt(out.length() - 1) == '(' ? "" : ", ").append(type);
                }
                methods.add(out.append(')').toString());
                Checks.due("parts of " + method, Modifier.PUBLIC, method.getModifiers());
                Checks.due("exceptions of " + method, 0, method.getExceptionTypes().length);
            }
        }
        return String.join("; ", methods);
    }

    private static String constants() throws IllegalAccessException {
        int parts = Modifier.PUBLIC | Modifier.STATIC | Modifier.FINAL;
        Set<String> constants = new TreeSet<>();
        for (Field field : FacingPlates.class.getDeclaredFields()) {
            if (!Modifier.isPrivate(field.getModifiers())) {
                Checks.due("parts of " + field, parts, field.getModifiers());
                constants.add(field.getType() + " " + field.getName() + " = " + field.get(null));
            }
        }
        return String.join("; ", constants);
    }
}
