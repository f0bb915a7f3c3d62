import java.lang.reflect.InvocationTargetException;
import java.lang.reflect.Method;
import java.nio.file.Files;
import java.nio.file.Path;
import java.util.Arrays;
import java.util.HashMap;
import java.util.List;
import java.util.Map;
import java.util.TreeMap;
import java.util.TreeSet;
import java.util.regex.Matcher;
import java.util.regex.Pattern;

/** README.md: each call under "How to use it" is made, and has to answer what its comment says. */
public final class ReadmeTest {
    private static final Pattern NEW_OBJECT = Pattern.compile("Switchgear gear = new Switchgear\\(\\);");
    private static final Pattern CALL =
        Pattern.compile("(?:int (\\w+) = )?gear\\.(\\w+)\\(([^)]*)\\); +// ([^:]+)(?:: .*)?");

    private static final Check CHECK = new Check("ReadmeTest");
    private static final Map<String, Method> FACE = new TreeMap<>();

    private static Switchgear gear;
    private static final Map<String, Object> VALUES = new HashMap<>(Map.of("true", true, "false", false));

    public static void main(String[] args) throws Exception {
        for (Method method : Switchgear.class.getDeclaredMethods()) {
            if (java.lang.reflect.Modifier.isPublic(method.getModifiers())) {
                FACE.put(method.getName(), method);
            }
        }
        String text = Files.readString(Path.of("README.md"));
        example(text);
        table(text);
        CHECK.end();
    }

    private static void example(String text) throws Exception {
        String block = text.split("```java\n")[1].split("```")[0];
        List<String> lines = block.lines().toList();
        CHECK.same("the first line makes the object", NEW_OBJECT.matcher(lines.get(0)).matches(), true);
        gear = new Switchgear();
        for (String line : lines.subList(1, lines.size())) {
            Matcher call = CALL.matcher(line);
            CHECK.same("a call and its answer: " + line, call.matches(), true);
            String got = answer(FACE.get(call.group(2)), call.group(3), call.group(1));
            CHECK.same(line, got, call.group(4));
        }
    }

    private static String answer(Method method, String given, String name) throws Exception {
        Object[] arguments = given.isEmpty() ? new Object[0]
            : Arrays.stream(given.split(", ")).map(ReadmeTest::value).toArray();
        try {
            Object got = method.invoke(gear, arguments);
            if (name != null) {
                VALUES.put(name, got);
            }
            return got instanceof Character ? "'" + got + "'" : got.toString();
        } catch (InvocationTargetException e) {
            return e.getCause().getClass().getSimpleName();
        }
    }

    private static Object value(String word) {
        Object known = VALUES.get(word);
        return known == null ? Integer.valueOf(word) : known;
    }

    private static void table(String text) {
        TreeSet<String> named = new TreeSet<>();
        for (String row : text.split("\\| for \\| calls \\| promises \\|\n")[1].split("\n\n")[0].split("\n")) {
            Matcher call = Pattern.compile("`(\\w+)`").matcher(row);
            while (call.find()) {
                named.add(call.group(1));
            }
        }
        CHECK.same("the calls of the table", named, new TreeSet<>(FACE.keySet()));
    }
}
