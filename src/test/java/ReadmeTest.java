import java.io.IOException;
import java.lang.reflect.InvocationTargetException;
import java.lang.reflect.Method;
import java.nio.file.Files;
import java.nio.file.Path;
import java.util.HashMap;
import java.util.Map;
import java.util.regex.Matcher;
import java.util.regex.Pattern;

/** Each call in the examples of README.md answers what stands behind it. */
public final class ReadmeTest extends Asked {
    private static final Path README = Path.of("README.md");
    private static final Pattern CALL = Pattern.compile("(?:int (\\w+) = )?x\\.(\\w+)\\(([^)]*)\\);\\s+// (-?\\d+): .*");
    private static final String MADE = "ChainFrames x = new ChainFrames();";

    private final Map<String, Integer> names = new HashMap<>(Map.of("ChainFrames.NONE", NONE));
    private ChainFrames x = null;

    private ReadmeTest() {
    }

    public static void main(String[] args) throws IOException, ReflectiveOperationException {
        int examples = 0;
        ReadmeTest example = null;
        for (String line : Files.readAllLines(README)) {
            if (line.equals("```java")) {
                example = new ReadmeTest();
                examples++;
            } else if (line.equals("```")) {
                example = null;
            } else if (example != null) {
                example.follow(line);
            }
        }
        check.due("there are examples", examples > 0 ? 1 : 0, 1);
        check.end();
    }

    private void follow(String line) throws ReflectiveOperationException {
        if (line.equals(MADE)) {
            x = new ChainFrames();
            return;
        }
        Matcher call = CALL.matcher(line);
        boolean isCall = call.matches() && x != null;
        check.due("a call and its answer: " + line, isCall ? 1 : 0, 1);
        if (isCall) {
            int answer = answerOf(call.group(2), call.group(3).split(",\\s*"));
            check.due(line, answer, Integer.parseInt(call.group(4)));
            if (call.group(1) != null) {
                names.put(call.group(1), answer);
            }
        }
    }

    private int answerOf(String name, String[] words) throws IllegalAccessException, InvocationTargetException {
        Object[] numbers = new Object[words.length];
        for (int i = 0; i < words.length; i++) {
            numbers[i] = names.containsKey(words[i]) ? names.get(words[i]) : Integer.valueOf(words[i]);
        }
        for (Method method : ChainFrames.class.getMethods()) {
            if (method.getName().equals(name) && method.getParameterCount() == numbers.length) {
                return (Integer) method.invoke(x, numbers);
            }
        }
        throw new IllegalStateException("no such call: " + name);
    }
}
