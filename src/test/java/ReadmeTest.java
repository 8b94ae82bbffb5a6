import java.lang.reflect.Method;
import java.nio.file.Files;
import java.nio.file.Path;
import java.util.regex.Matcher;
import java.util.regex.Pattern;

/** Does the calls of README.md's example, line by line, and looks whether each answers what it says. */
public final class ReadmeTest {
    private static final Pattern LINE = Pattern.compile(
        "halls\\.(\\w+)\\(([-0-9, ]*)\\);\\s+// (-?\\d+|true|false)\\b.*");

    private final Check check = new Check();
    private final GroupHalls halls = new GroupHalls();

    private static int[] numbers(String text) {
        String[] words = text.isEmpty() ? new String[0] : text.split(",");
        int[] numbers = new int[words.length];
        for (int i = 0; i < words.length; i++) {
            numbers[i] = Integer.parseInt(words[i].trim());
        }
        return numbers;
    }

    private String answer(String name, int[] numbers) throws ReflectiveOperationException {
        Class<?>[] types = new Class<?>[numbers.length];
        Object[] values = new Object[numbers.length];
        for (int i = 0; i < numbers.length; i++) {
            types[i] = int.class;
            values[i] = numbers[i];
        }
        Method method = GroupHalls.class.getMethod(name, types);
        return String.valueOf(method.invoke(halls, values));
    }

    private void example(String code) throws ReflectiveOperationException {
        String[] lines = code.strip().split("\n");
        check.due("the example makes an object first", true,
            lines[0].equals("GroupHalls halls = new GroupHalls();"));
        for (int i = 1; i < lines.length; i++) {
            Matcher line = LINE.matcher(lines[i]);
            boolean readable = line.matches();
            check.due("can be read: " + lines[i], true, readable);
            if (readable) {
                String got = answer(line.group(1), numbers(line.group(2)));
                check.due("answers so: " + lines[i] + " (it is " + got + ")", true, got.equals(line.group(3)));
            }
        }
    }

    /** Every call of the face is named in the table of calls. */
    private void calls(String text) {
        for (Method method : GroupHalls.class.getDeclaredMethods()) {
            if (java.lang.reflect.Modifier.isPublic(method.getModifiers())) {
                check.due("README.md tells of " + method.getName(), true, text.contains("| `" + method.getName() + "("));
            }
        }
    }

    public static void main(String[] args) throws Exception {
        ReadmeTest test = new ReadmeTest();
        String text = Files.readString(Path.of("README.md"));
        int from = text.indexOf("```java\n");
        int to = text.indexOf("\n```", from + 1);
        test.check.due("README.md has an example", true, from >= 0 && to > from);
        if (from >= 0 && to > from) {
            test.example(text.substring(from + "```java\n".length(), to));
        }
        test.calls(text);
        test.check.end();
    }
}
