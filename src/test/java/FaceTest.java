import java.lang.reflect.Constructor;
import java.lang.reflect.Field;
import java.lang.reflect.Method;
import java.lang.reflect.Modifier;
import java.nio.file.Files;
import java.nio.file.Path;
import java.util.Set;
import java.util.TreeSet;
import java.util.regex.Matcher;
import java.util.regex.Pattern;

/** The public face of the document and those rules of LANGUAGE.md that can be seen from outside. */
public final class FaceTest {
    private static final Set<String> FACE = Set.of(
        "int choose(int, int)", "int group()", "int about(int, int)", "int of(int, int, int)",
        "int product(int, int, int)", "int find(int, int, int)", "int half(int, int)",
        "int both(int, int)", "int centre(int)", "boolean within(int, int)",
        "int orbit(int, int, int)", "int keepers(int, int)");

    private final Check check = new Check();

    private static String told(Method method) {
        StringBuilder text = new StringBuilder();
        for (Class<?> type : method.getParameterTypes()) {
            text.append(text.length() == 0 ? "" : ", ").append(type.getSimpleName());
        }
        return method.getReturnType().getSimpleName() + " " + method.getName() + "(" + text + ")";
    }

    private void members() throws ReflectiveOperationException {
        Set<String> seen = new TreeSet<>();
        Set<String> names = new TreeSet<>();
        for (Method method : GroupHalls.class.getDeclaredMethods()) {
            if (!Modifier.isPrivate(method.getModifiers())) {
                seen.add(told(method));
                names.add(method.getName());
                check.due(told(method) + " is public and no static", Modifier.PUBLIC, method.getModifiers());
            }
        }
        check.due("the methods " + seen, true, seen.equals(FACE));
        for (Method method : GroupHalls.class.getDeclaredMethods()) {
            check.due(method + " bears a public name", false,
                Modifier.isPrivate(method.getModifiers()) && names.contains(method.getName()));
        }
        Constructor<?>[] constructors = GroupHalls.class.getDeclaredConstructors();
        check.due("constructors", 1, constructors.length);
        check.due("its parameters", 0, constructors[0].getParameterCount());
        check.due("it is public", Modifier.PUBLIC, constructors[0].getModifiers());
        check.due("the class", Modifier.PUBLIC | Modifier.FINAL, GroupHalls.class.getModifiers());
        for (Field field : GroupHalls.class.getDeclaredFields()) {
            boolean isNone = field.getName().equals("NONE");
            check.due(field + " is seen", isNone, !Modifier.isPrivate(field.getModifiers()));
            check.due(field + " is static, but no constant", false,
                Modifier.isStatic(field.getModifiers()) && !Modifier.isFinal(field.getModifiers()));
        }
        check.due("NONE", -1, GroupHalls.class.getField("NONE").getInt(null));
        for (Class<?> inside : GroupHalls.class.getDeclaredClasses()) {
            check.due(inside + " is static", true, Modifier.isStatic(inside.getModifiers()));
        }
    }

    private void source() throws java.io.IOException {
        String text = Files.readString(Path.of("src/main/java/GroupHalls.java"))
            .replaceAll("(?s)/\\*.*?\\*/", "").replaceAll("//[^\n]*", "");
        Matcher words = Pattern.compile(
            "\\b(throw|throws|try|catch|synchronized|assert|package|import|Exact|double|float|native)\\b|->|::")
            .matcher(text);
        while (words.find()) {
            check.due("the source has " + words.group(), 0, 1);
        }
        check.due("the source is there", true, text.contains("class GroupHalls"));
    }

    public static void main(String[] args) throws Exception {
        FaceTest test = new FaceTest();
        test.members();
        test.source();
        test.check.end();
    }
}
