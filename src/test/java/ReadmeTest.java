import java.io.IOException;
import java.lang.reflect.InvocationTargetException;
import java.lang.reflect.Method;
import java.nio.file.Files;
import java.nio.file.Path;
import java.util.NoSuchElementException;
import java.util.regex.Matcher;
import java.util.regex.Pattern;

/** Runs the examples of README.md, so that none of them can say what is not so. */
public final class ReadmeTest extends Checks {
    private static final String NEW_POOL = "TypingPool pool = new TypingPool();";
    private static final Pattern CALL =
        Pattern.compile("pool\\.(\\w+)\\(([^()]*)\\); +// (-?\\d+|NONE|true|false|NoSuchElementException)\\b.*");
    private static final String THROWN = "NoSuchElementException";

    private TypingPool pool = null;

    public static void main(String[] args) throws IOException, IllegalAccessException {
        ReadmeTest test = new ReadmeTest();
        boolean isExample = false;
        for (String line : Files.readAllLines(Path.of("README.md"))) {
            if (line.startsWith("```")) {
                isExample = line.equals("```java");
            } else if (isExample) {
                test.run(line);
            }
        }
        finish();
    }

    private void run(String line) throws IllegalAccessException {
        sentence("README.md", line);
        Matcher call = CALL.matcher(line);
        if (line.equals(NEW_POOL)) {
            pool = new TypingPool();
        } else if (pool == null || !call.matches()) {
            due("this line", "no example that can be run", "pool.call(numbers);  // answer");
        } else {
            String want = call.group(3).equals("NONE") ? "-1" : call.group(3);
            due(call.group(1), answer(call.group(1), numbers(call.group(2))), want);
        }
    }

    private static Object[] numbers(String told) {
        String[] parts = told.split(", ");
        Object[] numbers = new Object[parts.length];
        for (int i = 0; i < parts.length; i++) {
            numbers[i] = Integer.decode(parts[i]);
        }
        return numbers;
    }

    private String answer(String name, Object[] numbers) throws IllegalAccessException {
        for (Method method : TypingPool.class.getMethods()) {
            if (method.getName().equals(name) && method.getParameterCount() == numbers.length) {
                try {
                    return String.valueOf(method.invoke(pool, numbers));
                } catch (InvocationTargetException e) {
                    return e.getCause() instanceof NoSuchElementException ? THROWN : String.valueOf(e.getCause());
                }
            }
        }
        return "no such call";
    }
}
