import java.io.IOException;
import java.lang.reflect.Method;
import java.nio.file.Files;
import java.nio.file.Path;
import java.util.regex.Matcher;
import java.util.regex.Pattern;

/** README.md's example: every line of it is a call, with the answer that stands behind it. */
final class ReadmeTest {
    private static final Due DUE = new Due("ReadmeTest");
    private static final Pattern BLOCK = Pattern.compile("(?s)```java\\n(.*?)```");
    private static final Pattern MADE = Pattern.compile("ZInput z = new ZInput\\((.*?)\\); .*");
    private static final Pattern CALL = Pattern.compile("z\\.(\\w+)\\((.*?)\\);\\s+// ('.'|-?\\d+)(:.*)?");
    private static final int LEAST_CALLS = 10;

    public static void main(String[] args) throws IOException, ReflectiveOperationException {
        DUE.run("README.md");
        Matcher block = BLOCK.matcher(Files.readString(Path.of("README.md")));
        DUE.is("it has an example", block.find() ? 1 : 0, 1);
        String[] lines = block.group(1).split("\\n");
        Matcher made = MADE.matcher(lines[0]);
        DUE.is("'" + lines[0] + "' makes an object", made.matches() ? 1 : 0, 1);
        ZInput z = new ZInput((int) number(made.group(1)));
        for (int i = 1; i < lines.length; i++) {
            line(z, lines[i]);
        }
        DUE.is("it has some calls", Math.min(lines.length - 1, LEAST_CALLS), LEAST_CALLS);
        DUE.end();
    }

    private static void line(ZInput z, String line) throws ReflectiveOperationException {
        Matcher call = CALL.matcher(line);
        if (!call.matches()) {
            DUE.is("'" + line + "' is a call with its answer", 0, 1);
            return;
        }
        DUE.is(line, answer(z, call.group(1), call.group(2).split(", ")), number(call.group(3)));
    }

    private static int answer(ZInput z, String name, String[] numbers) throws ReflectiveOperationException {
        for (Method method : ZInput.class.getMethods()) {
            if (method.getName().equals(name)) {
                Object[] given = new Object[numbers.length];
                for (int i = 0; i < given.length; i++) {
                    long value = number(numbers[i]);
                    given[i] = method.getParameterTypes()[i] == long.class ? (Object) value : (Object) (int) value;
                }
                return (int) method.invoke(z, given);
            }
        }
        throw new NoSuchMethodException(name);
    }

    private static long number(String text) {
        return text.startsWith("'") ? text.charAt(1) : Long.decode(text.replace("L", ""));
    }
}
