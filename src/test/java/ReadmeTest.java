import java.io.IOException;
import java.lang.reflect.InvocationTargetException;
import java.lang.reflect.Method;
import java.nio.file.Files;
import java.nio.file.Path;
import java.util.regex.Matcher;
import java.util.regex.Pattern;

/** The runs of README.md, with the answers that stand behind them. It is started where README.md lies. */
public final class ReadmeTest {
    private static final Pattern CALL = Pattern.compile("x\\.(\\w+)\\(([-\\dL, ]*)\\); *// (-?\\d+).*");
    private static final Pattern TEXT = Pattern.compile("for .*\"(.*)\"\\.toCharArray\\(\\)\\) x\\.append\\(sign\\);");
    private static final String MADE = "NameBenches x = new NameBenches();";

    private final NameBenches x = new NameBenches();
    private boolean inRun = false;
    private int calls = 0;

    public static void main(String[] args) throws IOException {
        ReadmeTest test = new ReadmeTest();
        for (String line : Files.readAllLines(Path.of("README.md"))) {
            test.read(line);
        }
        Check.that("README.md has runs", test.calls > 0);
        Check.end();
    }

    private void read(String line) {
        if (line.startsWith("```")) {
            inRun = line.equals("```java");
        } else if (inRun && !line.equals(MADE)) {
            run(line);
        }
    }

    private void run(String line) {
        Matcher text = TEXT.matcher(line);
        Matcher call = CALL.matcher(line);
        if (text.matches()) {
            TestBase.add(x, text.group(1));
        } else if (call.matches()) {
            calls++;
            Check.same("README.md: " + line, answer(call.group(1), call.group(2)), Long.parseLong(call.group(3)));
        } else {
            Check.that("README.md: a line that is no call with an answer: " + line, false);
        }
    }

    private long answer(String name, String arguments) {
        String[] told = arguments.isEmpty() ? new String[0] : arguments.split(", ");
        for (Method method : NameBenches.class.getMethods()) {
            if (method.getName().equals(name) && method.getParameterCount() == told.length) {
                return called(method, told);
            }
        }
        throw new IllegalArgumentException("no method " + name + " with " + told.length + " arguments");
    }

    private static Object number(String told, Class<?> kind) {
        if (kind == long.class) {
            return Long.valueOf(told.replace("L", ""));
        }
        return Integer.valueOf(told);
    }

    private long called(Method method, String[] told) {
        Object[] numbers = new Object[told.length];
        for (int i = 0; i < told.length; i++) {
            numbers[i] = number(told[i], method.getParameterTypes()[i]);
        }
        try {
            return ((Number) method.invoke(x, numbers)).longValue();
        } catch (IllegalAccessException | InvocationTargetException e) {
            throw new IllegalStateException(method + " threw " + e.getCause());
        }
    }
}
