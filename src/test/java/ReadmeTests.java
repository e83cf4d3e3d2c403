import java.io.IOException;
import java.lang.reflect.Method;
import java.lang.reflect.Modifier;
import java.nio.file.Files;
import java.nio.file.Path;
import java.util.regex.Matcher;
import java.util.regex.Pattern;

/** README.md says of the class what is so: its example answers as it says, its table has each method. */
public final class ReadmeTests {
    private static final Pattern TEXT = Pattern.compile("String text = \"([^\"]*)\";");
    private static final Pattern CALL = Pattern.compile("(?m)^x\\.(\\w+)\\(([-\\d, ]*)\\); *// (-?\\d+)\\b");

    public static void main(String[] args) throws Exception {
        String page = Files.readString(Path.of("README.md"));
        example(part(page, "```java\n", "```\n"));
        table(part(page, "| --- | --- |\n", "\n\n"));
        Due.end();
    }

    private static String part(String page, String begin, String end) throws IOException {
        int from = page.indexOf(begin);
        int to = from < 0 ? -1 : page.indexOf(end, from + begin.length());
        if (to < 0) {
            throw new IOException("README.md has nothing between '" + begin + "' and '" + end + "'");
        }
        return page.substring(from + begin.length(), to);
    }

    private static void example(String example) throws ReflectiveOperationException {
        EightMinutes x = new EightMinutes();
        Matcher text = TEXT.matcher(example);
        Due.holds("the example tells an evening", text.find());
        Due.write(x, text.group(1));
        Matcher call = CALL.matcher(example);
        int calls = 0;
        while (call.find()) {
            calls++;
            int due = Integer.parseInt(call.group(3));
            Due.is(call.group(1) + "(" + call.group(2) + ")", answer(x, call.group(1), call.group(2)), due);
        }
        int lines = example.split("(?m)^x\\.", -1).length - 1;
        Due.is("calls with an answer in the example", calls, lines);
    }

    private static int answer(EightMinutes x, String name, String told) throws ReflectiveOperationException {
        String[] numbers = told.isEmpty() ? new String[0] : told.split(", ");
        Class<?>[] types = new Class<?>[numbers.length];
        Object[] values = new Object[numbers.length];
        for (int i = 0; i < numbers.length; i++) {
            types[i] = int.class;
            values[i] = Integer.parseInt(numbers[i]);
        }
        return (int) EightMinutes.class.getMethod(name, types).invoke(x, values);
    }

    private static void table(String table) {
        for (Method method : EightMinutes.class.getDeclaredMethods()) {
            boolean isOpen = Modifier.isPublic(method.getModifiers());
            Due.holds(method.getName() + " is in the table", !isOpen || table.contains("`" + method.getName() + "("));
        }
    }
}
