import java.io.IOException;
import java.lang.reflect.Method;
import java.nio.file.Files;
import java.nio.file.Path;
import java.util.regex.Matcher;
import java.util.regex.Pattern;

/** The calls that README.md shows, on one object, answer what it says beside them. */
public final class ReadmeTest {
    private static final Pattern SHOWN = Pattern.compile("(?m)^x\\.(\\w+)\\(([^)]*)\\);\\s*// (-?\\d+)\\b");
    private static final Checks checks = new Checks("ReadmeTest");

    public static void main(String[] args) throws IOException, ReflectiveOperationException {
        PuppetCast x = new PuppetCast();
        Matcher shown = SHOWN.matcher(Files.readString(Path.of("README.md")));
        int calls = 0;
        while (shown.find()) {
            long answer = answerOf(x, shown.group(1), shown.group(2));
            checks.due(shown.group(1) + "(" + shown.group(2) + ")", answer, Long.parseLong(shown.group(3)));
            calls++;
        }
        checks.due("calls are shown", calls > 20 ? 1 : 0, 1);
        checks.end();
    }

    private static long answerOf(PuppetCast x, String name, String numbers) throws ReflectiveOperationException {
        for (Method call : PuppetCast.class.getMethods()) {
            if (call.getName().equals(name)) {
                return ((Number) call.invoke(x, numbersFor(call.getParameterTypes(), numbers))).longValue();
            }
        }
        throw new NoSuchMethodException(name);
    }

    private static Object[] numbersFor(Class<?>[] types, String told) {
        String[] words = told.isEmpty() ? new String[0] : told.split(", ");
        Object[] numbers = new Object[words.length];
        for (int i = 0; i < words.length; i++) {
            long number = words[i].equals("NONE") ? PuppetCast.NONE : Long.parseLong(words[i]);
            if (i < types.length && types[i] == long.class) {
                numbers[i] = number;
            } else {
                numbers[i] = (int) number;
            }
        }
        return numbers;
    }
}
