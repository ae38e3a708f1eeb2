import java.io.IOException;
import java.lang.reflect.Method;
import java.nio.file.Files;
import java.nio.file.Path;
import java.util.regex.Matcher;
import java.util.regex.Pattern;

/** The calls that README.md shows answer as it says, one behind another; and it tells of every test. */
final class ReadmeTest {
    private static final Pattern CALL = Pattern.compile("x\\.(\\w+)\\((.*?)\\); +// (-?\\d+|[A-Z_]+)\\b");

    public static void main(String[] args) throws IOException, ReflectiveOperationException {
        String readme = Files.readString(Path.of("README.md"));
        shownCalls(readme);
        tellsOfEveryTest(readme);
        Checks.finish();
    }

    private static void shownCalls(String readme) throws ReflectiveOperationException {
        FacingPlates x = null;
        int calls = 0;
        for (String line : readme.split("\n")) {
            if (line.contains("new FacingPlates()")) {
                x = new FacingPlates();
            }
            Matcher call = CALL.matcher(line);
            if (line.startsWith("x.") && call.find()) {
                calls++;
                Checks.due("README's " + line, answer(call.group(3)), ask(x, call.group(1), call.group(2)));
            } else if (line.startsWith("x.")) {
                Checks.due("README's answer of " + line, 1, 0);
            }
        }
        Checks.due("calls of all methods are shown", 1, calls >= 20 ? 1 : 0);
        for (Method method : FacingPlates.class.getMethods()) {
            if (method.getDeclaringClass() == FacingPlates.class) {
                Checks.due("README shows " + method, 1, readme.contains("x." + method.getName() + "(") ? 1 : 0);
            }
        }
    }

    private static int answer(String words) throws ReflectiveOperationException {
        boolean named = Character.isLetter(words.charAt(0));
        return named ? FacingPlates.class.getField(words).getInt(null) : Integer.parseInt(words);
    }

    private static int ask(FacingPlates x, String name, String words) throws ReflectiveOperationException {
        for (Method method : FacingPlates.class.getMethods()) {
            if (method.getName().equals(name)) {
                Class<?>[] types = method.getParameterTypes();
                Object[] values = new Object[types.length];
                String[] parts = words.split(", ");
                for (int i = 0; i < types.length; i++) {
                    values[i] = value(types[i], parts[i]);
                }
                return (int) method.invoke(x, values);
            }
        }
        throw new NoSuchMethodException(name);
    }

    private static Object value(Class<?> type, String word) {
        if (type == boolean.class) {
            return Boolean.valueOf(word);
        }
        return type == char.class ? (Object) word.charAt(1) : (Object) Integer.valueOf(word);
    }

    private static void tellsOfEveryTest(String readme) throws IOException {
        try (var files = Files.list(Path.of("src/test/java"))) {
            files.map(file -> file.getFileName().toString().replace(".java", "")).forEach(name ->
                Checks.due("README tells of " + name, 1, readme.contains("`" + name + "`") ? 1 : 0));
        }
    }
}
