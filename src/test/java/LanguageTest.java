import java.io.IOException;
import java.lang.reflect.Constructor;
import java.lang.reflect.Field;
import java.lang.reflect.Method;
import java.lang.reflect.Modifier;
import java.nio.file.Files;
import java.nio.file.Path;
import java.util.Set;
import java.util.TreeSet;
import java.util.regex.Matcher;
import java.util.regex.Pattern;

/** The rules of ../shared/LANGUAGE.md that the words of the source and the class's members show. */
final class LanguageTest {
    private static final Path SOURCE = Path.of("src/main/java/FacingPlates.java");

    public static void main(String[] args) throws IOException {
        String source = Files.readString(SOURCE);
        String code = source.replaceAll("(?s)/\\*.*?\\*/", "").replaceAll("//[^\n]*", "");
        forbiddenWords(code);
        arraysInRowAlone(code);
        objectsInFieldsAlone(code);
        shortMethods(code);
        face();
        insides();
        Checks.finish();
    }

    private static int times(String pattern, String code) {
        Matcher matcher = Pattern.compile(pattern).matcher(code);
        int times = 0;
        while (matcher.find()) {
            times++;
        }
        return times;
    }

    private static void forbiddenWords(String code) {
        String[] words = {"throw", "throws", "try", "catch", "finally", "synchronized", "assert", "package", "import",
            "System", "Object", "Thread", "volatile", "transient", "native", "protected", "hashCode", "toString",
            "var", "->", "::", "float", "double", "\"", "@"};
        for (String word : words) {
            String pattern = Character.isLetter(word.charAt(0)) ? "\\b" + word + "\\b" : Pattern.quote(word);
            int want = word.equals("@") ? 1 : 0;
            Checks.due("times of " + word, want, times(pattern, code));
        }
        Checks.due("signs beyond 127", 0, times("[^\\x00-\\x7f]", code));
    }

    /** An index and a length are tested in the class Row; nowhere else are there arrays. */
    private static void arraysInRowAlone(String code) {
        int from = code.indexOf("private static final class Row");
        int to = code.indexOf("private static final class Catalogue");
        Checks.due("arrays outside of Row", 0, times("\\[", code.substring(0, from) + code.substring(to)));
        Checks.due("divisors", 3, times(" [/%] ", code));
        Checks.due("a divisor that is no constant", 1, times(" [/%] (?!10\\b|SIDES\\b)", code));
    }

    private static void objectsInFieldsAlone(String code) {
        int all = times("\\bnew\\b", code);
        int inFields = times("private final \\w+ \\w+ = new \\w+\\(", code);
        Checks.due("objects that are made outside of fields", 1, all - inFields);
        Checks.due("the array of a Row", 1, times("cells = new int\\[size < 0 \\? 0 : size\\]", code));
    }

    private static void shortMethods(String code) {
        int length = 0;
        for (String line : code.split("\n")) {
            boolean head = line.matches(" {4,8}(public|private|static|int|boolean|void|\\w+) .*\\) \\{");
            length = head ? 0 : length + 1;
            if (line.matches(" {4,8}\\}") && length > 60) {
                Checks.due("a long method", 0, length);
            }
        }
    }

    private static void face() {
        Set<String> names = new TreeSet<>();
        for (Method method : FacingPlates.class.getDeclaredMethods()) {
            if (!Modifier.isPrivate(method.getModifiers())) {
                names.add(method.getName());
                Checks.due("public " + method, Modifier.PUBLIC, method.getModifiers());
            }
        }
        Checks.due("public methods", 20, names.size());
        for (Method method : FacingPlates.class.getDeclaredMethods()) {
            boolean isPrivate = Modifier.isPrivate(method.getModifiers());
            Checks.due("name of " + method, 0, isPrivate && names.contains(method.getName()) ? 1 : 0);
        }
        int constants = 0;
        for (Field field : FacingPlates.class.getDeclaredFields()) {
            int modifiers = field.getModifiers();
            constants += Modifier.isPublic(modifiers) ? 1 : 0;
            Checks.due("kind of " + field, 1, Modifier.isPublic(modifiers) || Modifier.isPrivate(modifiers) ? 1 : 0);
            Checks.due("static " + field, 1, !Modifier.isStatic(modifiers) || Modifier.isFinal(modifiers) ? 1 : 0);
        }
        Checks.due("public constants", 5, constants);
        for (Constructor<?> constructor : FacingPlates.class.getDeclaredConstructors()) {
            Checks.due("constructor", Modifier.PUBLIC, constructor.getModifiers());
        }
        Checks.due("final", Modifier.PUBLIC | Modifier.FINAL, FacingPlates.class.getModifiers());
    }

    private static void insides() {
        Class<?>[] insides = FacingPlates.class.getDeclaredClasses();
        Checks.due("at most twelve classes", 1, insides.length + 1 <= 12 ? 1 : 0);
        fewFields(FacingPlates.class);
        for (Class<?> inside : insides) {
            int modifiers = inside.getModifiers();
            Checks.due("static " + inside, 1, Modifier.isStatic(modifiers) ? 1 : 0);
            Checks.due("public " + inside, 0, modifiers & (Modifier.PUBLIC | Modifier.PROTECTED));
            Checks.due("classes inside of " + inside, 0, inside.getDeclaredClasses().length);
            fewFields(inside);
            for (Method method : inside.getDeclaredMethods()) {
                Checks.due("parameters of " + method, 1, method.getParameterCount() <= 7 ? 1 : 0);
                Checks.due("name of " + method, 0, isPublicName(method.getName()) ? 1 : 0);
            }
        }
    }

    private static void fewFields(Class<?> type) {
        int fields = 0;
        for (Field field : type.getDeclaredFields()) {
            boolean constant = Modifier.isStatic(field.getModifiers());
            Checks.due("static " + field, 1, !constant || Modifier.isFinal(field.getModifiers()) ? 1 : 0);
            fields += constant ? 0 : 1;
        }
        Checks.due("at most twenty fields of " + type, 1, fields <= 20 ? 1 : 0);
    }

    private static boolean isPublicName(String name) {
        for (Method method : FacingPlates.class.getMethods()) {
            if (method.getDeclaringClass() == FacingPlates.class && method.getName().equals(name)) {
                return true;
            }
        }
        return false;
    }
}
