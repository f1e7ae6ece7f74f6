import java.io.IOException;
import java.lang.reflect.Method;
import java.nio.file.Files;
import java.nio.file.Path;
import java.util.regex.Matcher;
import java.util.regex.Pattern;

/** The examples of README.md: each call there answers the number that ends its line. */
final class ReadmeTest {
    private static final String ANEW = "SnailLaws x = new SnailLaws();";
    private static final Pattern BLOCK = Pattern.compile("```java\n(.*?)```", Pattern.DOTALL);
    private static final Pattern CALL = Pattern.compile("x\\.(\\w+)\\((.*?)\\); +// .*: (-?\\d+)");

    private static long answer(SnailLaws x, String name, String arguments) throws ReflectiveOperationException {
        String[] told = arguments.isEmpty() ? new String[0] : arguments.split(", ");
        Class<?>[] types = new Class<?>[told.length];
        Object[] numbers = new Object[told.length];
        for (int i = 0; i < told.length; i++) {
            types[i] = int.class;
            numbers[i] = Integer.decode(told[i]);
        }
        Method method = SnailLaws.class.getMethod(name, types);
        return ((Number) method.invoke(x, numbers)).longValue();
    }

    private static void block(String lines) throws ReflectiveOperationException {
        SnailLaws x = null;
        for (String line : lines.split("\n")) {
            Matcher call = CALL.matcher(line);
            if (line.equals(ANEW)) {
                x = new SnailLaws();
            } else if (call.matches() && x != null) {
                Check.due(line, answer(x, call.group(1), call.group(2)), Long.parseLong(call.group(3)));
            } else {
                Check.due("a line of another form: " + line, 0, 1);
            }
        }
    }

    public static void main(String[] args) throws IOException, ReflectiveOperationException {
        Matcher blocks = BLOCK.matcher(Files.readString(Path.of("README.md")));
        while (blocks.find()) {
            block(blocks.group(1));
        }
        Check.end("ReadmeTest");
    }
}
