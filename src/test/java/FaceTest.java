import java.lang.reflect.Constructor;
import java.lang.reflect.Field;
import java.lang.reflect.Method;
import java.lang.reflect.Modifier;
import java.nio.file.Files;
import java.nio.file.Path;
import java.util.Set;
import java.util.TreeSet;
import java.util.regex.Matcher;
import java.util.regex.Pattern;

/** The public face of the document and those rules of LANGUAGE.md that can be seen from outside. */
public final class FaceTest {
    private static final Set<String> FACE = Set.of(
        "int choose(int, int)", "int group()", "int about(int, int)", "int of(int, int, int)",
        "int product(int, int, int)", "int find(int, int, int)", "int half(int, int)",
        "int both(int, int)", "int centre(int)", "boolean within(int, int)",
        "int orbit(int, int, int)", "int keepers(int, int)");

    private final Check check = new Check();

    private static String told(Method method) {
        StringBuilder text = new StringBuilder();
        for (Class<?> type : method.getParameterTypes()) {
            text.append(text.length() == 0 ? "" : ", ").append(type.getSimpleName());
        }
        return method.getReturnType().getSimpleName() + " " + method.getName() + "(" + text + ")";
    }

    private void members() throws ReflectiveOperationException {
        Set<String> seen = new TreeSet<>();
        Set<String> names = new TreeSet<>();
        for (Method method : GroupHalls.class.getDeclaredMethods()) {
            if (!Modifier.isPrivate(method.getModifiers())) {
                seen.add(told(method));
                names.add(method.getName());
                check.due(told(method) + " is public and no static", Modifier.PUBLIC, method.getModifiers());
            }
        }
        check.due("the methods " + seen, true, seen.equals(FACE));
        for (Method method : GroupHalls.class.getDeclaredMethods()) {
            check.due(method + " bears a public name", false,
                Modifier.isPrivate(method.getModifiers()) && names.contains(method.getName()));
        }
        Constructor<?>[] constructors = GroupHalls.class.getDeclaredConstructors();
        check.due("constructors", 1, constructors.length);
        check.due("its parameters", 0, constructors[0].getParameterCount());
        check.due("it is public", Modifier.PUBLIC, constructors[0].getModifiers());
        check.due("the class", Modifier.PUBLIC | Modifier.FINAL, GroupHalls.class.getModifiers());
        for (Field field : GroupHalls.class.getDeclaredFields()) {
            boolean isNone = field.getName().equals("NONE");
            check.due(field + " is seen", isNone, !Modifier.isPrivate(field.getModifiers()));
            check.due(field + " is static, but no constant", false,
                Modifier.isStatic(field.getModifiers()) && !Modifier.isFinal(field.getModifiers()));
        }
        check.due("NONE", -1, GroupHalls.class.getField("NONE").getInt(null));
        for (Class<?> inside : GroupHalls.class.getDeclaredClasses()) {
            check.due(inside + " is static", true, Modifier.isStatic(inside.getModifiers()));
        }
    }

    /** Rules 1, 5 and 11: private names, static fields, parameters, fields and how many classes. */
    private void shape() {
        Set<String> names = new TreeSet<>();
        for (String told : FACE) {
            names.add(told.substring(told.indexOf(' ') + 1, told.indexOf('(')));
        }
        Class<?>[] insides = GroupHalls.class.getDeclaredClasses();
        check.due("the file has at most twelve classes", true, insides.length + 1 <= 12);
        shapeOf(GroupHalls.class, Set.of());
        for (Class<?> inside : insides) {
            check.due(inside + " has no class inside", 0, inside.getDeclaredClasses().length);
            shapeOf(inside, names);
        }
    }

    private void shapeOf(Class<?> type, Set<String> publicNames) {
        int fields = 0;
        for (Field field : type.getDeclaredFields()) {
            boolean isStatic = Modifier.isStatic(field.getModifiers());
            fields += isStatic ? 0 : 1;
            if (isStatic) {
                check.due(field + " is final", true, Modifier.isFinal(field.getModifiers()));
                check.due(field + " is a constant or a row written out", true,
                    field.getType() == int.class || field.getType() == int[].class);
            }
        }
        check.due(type + " has at most twenty fields", true, fields <= 20);
        for (Method method : type.getDeclaredMethods()) {
            check.due(method + " takes at most seven", true, method.getParameterCount() <= 7);
            check.due(method + " is private and bears a public name", false,
                Modifier.isPrivate(method.getModifiers()) && publicNames.contains(method.getName()));
        }
        for (Constructor<?> constructor : type.getDeclaredConstructors()) {
            check.due(constructor + " takes at most seven", true, constructor.getParameterCount() <= 7);
        }
    }

    /** Rule 11: a method begins and ends with a line of the same indent, 4 or 8. */
    private void lengths(String text) {
        String[] lines = text.split("\n", -1);
        int methods = 0;
        for (int i = 0; i < lines.length; i++) {
            if (!lines[i].matches("( {4}| {8})[^ =].*\\) \\{") || lines[i].matches(" *(if|for|while|switch)\\b.*")) {
                continue;
            }
            String end = lines[i].replaceAll("[^ ].*", "") + "}";
            int last = i + 1;
            while (last < lines.length && !lines[last].equals(end)) {
                last++;
            }
            methods++;
            check.due(lines[i].trim() + " is short", true, last - i + 1 <= 60);
        }
        check.due("methods were seen", true, methods > 50);
    }

    private void source() throws java.io.IOException {
        String text = Files.readString(Path.of("src/main/java/GroupHalls.java"))
            .replaceAll("(?s)/\\*.*?\\*/", "").replaceAll("//[^\n]*", "");
        Matcher words = Pattern.compile(
            "\\b(throw|throws|try|catch|synchronized|assert|package|import|Exact|double|float|native)\\b|->|::")
            .matcher(text);
        while (words.find()) {
            check.due("the source has " + words.group(), 0, 1);
        }
        check.due("the source is there", true, text.contains("class GroupHalls"));
        lengths(text);
    }

    public static void main(String[] args) throws Exception {
        FaceTest test = new FaceTest();
        test.members();
        test.shape();
        test.source();
        test.check.end();
    }
}
