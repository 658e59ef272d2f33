import java.io.IOException;
import java.lang.reflect.Method;
import java.lang.reflect.Modifier;
import java.nio.file.Files;
import java.nio.file.Path;
import java.util.List;
import java.util.regex.Matcher;
import java.util.regex.Pattern;

/** README.md: its example is run as it stands there, and it tells of every call. */
public final class ReadmeTest {
    private static final Pattern CALL = Pattern.compile("circle\\.(\\w+)\\(([^)]*)\\);\\s*// (-?\\d+):.*");
    private static final Check check = new Check("ReadmeTest");

    public static void main(String[] args) throws IOException, ReflectiveOperationException {
        List<String> lines = Files.readAllLines(Path.of("README.md"));
        runExample(lines);
        tellsOfEveryCall(String.join("\n", lines));
        check.finish();
    }

    private static void runExample(List<String> lines) throws ReflectiveOperationException {
        SitterCircle circle = new SitterCircle();
        boolean isJava = false;
        int calls = 0;
        for (String line : lines) {
            if (line.startsWith("```")) {
                isJava = line.equals("```java");
            } else if (isJava && line.startsWith("circle.")) {
                Matcher call = CALL.matcher(line);
                check.due("README tells the answer of: " + line, call.matches() ? 1 : 0, 1);
                if (call.matches()) {
                    check.due(line, answer(circle, call.group(1), call.group(2)), Long.parseLong(call.group(3)));
                    calls++;
                }
            }
        }
        check.due("README has an example", calls > 0 ? 1 : 0, 1);
    }

    private static int answer(SitterCircle circle, String name, String numbers) throws ReflectiveOperationException {
        String[] words = numbers.isEmpty() ? new String[0] : numbers.split(", ");
        for (Method method : SitterCircle.class.getMethods()) {
            Class<?>[] types = method.getParameterTypes();
            if (method.getName().equals(name) && types.length == words.length) {
                Object[] values = new Object[words.length];
                for (int i = 0; i < words.length; i++) {
                    values[i] = value(types[i], words[i]);
                }
                return (Integer) method.invoke(circle, values);
            }
        }
        throw new NoSuchMethodException(name + "(" + numbers + ")");
    }

    private static Object value(Class<?> type, String word) {
        if (type == boolean.class) {
            return Boolean.valueOf(word);
        }
        return type == long.class ? (Object) Long.decode(word.replace("L", "")) : Integer.decode(word);
    }

    private static void tellsOfEveryCall(String readme) {
        for (Method method : SitterCircle.class.getDeclaredMethods()) {
            if (Modifier.isPublic(method.getModifiers())) {
                boolean isTold = readme.contains("`" + method.getName() + "(");
                check.due("README tells of " + method.getName(), isTold ? 1 : 0, 1);
            }
        }
    }
}
