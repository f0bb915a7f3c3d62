import java.lang.reflect.Constructor;
import java.lang.reflect.Field;
import java.lang.reflect.Method;
import java.lang.reflect.Modifier;
import java.nio.file.Files;
import java.nio.file.Path;
import java.util.ArrayList;
import java.util.Arrays;
import java.util.List;
import java.util.TreeSet;
import java.util.regex.Matcher;
import java.util.regex.Pattern;
import java.util.stream.Collectors;

/** The face: what is visible of the class is what the document lists, and nothing else. */
public final class FaceTest {
    private static final String[] FACE = {
        "int addSource(int) IllegalArgumentException IllegalStateException",
        "int addBus(int,int) IllegalArgumentException IllegalStateException",
        "int addLine(int,int,int,boolean) NoSuchElementException IllegalArgumentException IllegalStateException",
        "int setLoad(int,int) NoSuchElementException IllegalArgumentException UnsupportedOperationException"
            + " IllegalStateException",
        "int setRelay(int,int,int,int) NoSuchElementException IllegalArgumentException"
            + " UnsupportedOperationException",
        "char close(int) NoSuchElementException",
        "char open(int) NoSuchElementException",
        "char canClose(int) NoSuchElementException",
        "char canOpen(int) NoSuchElementException",
        "int overloaded(int) NoSuchElementException IllegalStateException",
        "int fault(int) NoSuchElementException IllegalStateException",
        "boolean repair(int) NoSuchElementException IllegalStateException",
        "int reset(int) NoSuchElementException UnsupportedOperationException IllegalStateException",
        "int nodes()",
        "int lines()",
        "boolean isSource(int) NoSuchElementException",
        "int loadOf(int) NoSuchElementException",
        "int weight(int) NoSuchElementException UnsupportedOperationException",
        "boolean isClosed(int) NoSuchElementException",
        "boolean isLocked(int) NoSuchElementException",
        "boolean hasFault(int) NoSuchElementException",
        "int islandOf(int) NoSuchElementException",
        "int islandByRounds(int) NoSuchElementException",
        "int islands()",
        "boolean isLive(int) NoSuchElementException",
        "int sourceOf(int) NoSuchElementException IllegalStateException",
        "int islandLoad(int) NoSuchElementException",
        "int current(int) NoSuchElementException",
        "int currentByCutting(int) NoSuchElementException",
        "int distance(int) NoSuchElementException IllegalStateException",
        "int pathAt(int,int) NoSuchElementException IllegalStateException IndexOutOfBoundsException",
        "int faultCurrent(int) NoSuchElementException IllegalStateException",
        "int tripTime(int,int) NoSuchElementException IllegalArgumentException UnsupportedOperationException",
        "int wouldTrip(int) NoSuchElementException",
        "boolean isSelective(int) NoSuchElementException",
        "int margin(int) NoSuchElementException IllegalStateException UnsupportedOperationException",
        "int trips()",
        "int darkLoad()",
        "int bestValue()",
        "int bestSize()",
        "int bestAt(int) IndexOutOfBoundsException",
        "int valueByTrying() UnsupportedOperationException",
        "int sizeByTrying() UnsupportedOperationException",
        "int restore()",
        "float liveShare() ArithmeticException",
        "double meanCurrent() ArithmeticException",
    };

    public static void main(String[] args) throws Exception {
        Check check = new Check("FaceTest");
        methods(check);
        otherMembers(check);
        if (args.length > 0) {
            source(check, Files.readString(Path.of(args[0])));
        }
        check.end();
    }

    private static void methods(Check check) {
        List<String> seen = new ArrayList<>();
        TreeSet<String> hidden = new TreeSet<>();
        TreeSet<String> open = new TreeSet<>();
        for (Method method : Switchgear.class.getDeclaredMethods()) {
            if (Modifier.isPrivate(method.getModifiers())) {
                hidden.add(method.getName());
            } else {
                open.add(method.getName());
                check.same(method + " is public alone", Modifier.toString(method.getModifiers()), "public");
                seen.add(described(method));
            }
        }
        check.same("the methods of the face", new TreeSet<>(seen), new TreeSet<>(Arrays.asList(FACE)));
        hidden.retainAll(open);
        check.same("names both private and public", hidden, new TreeSet<String>());
    }

    private static String described(Method method) {
        String types = Arrays.stream(method.getParameterTypes()).map(Class::getSimpleName)
            .collect(Collectors.joining(","));
        String thrown = Arrays.stream(method.getExceptionTypes()).map(type -> " " + type.getSimpleName())
            .collect(Collectors.joining());
        return method.getReturnType().getSimpleName() + " " + method.getName() + "(" + types + ")" + thrown;
    }

    private static void otherMembers(Check check) {
        check.same("the class", Modifier.toString(Switchgear.class.getModifiers()), "public final");
        Constructor<?>[] constructors = Switchgear.class.getDeclaredConstructors();
        check.same("constructors", constructors.length, 1);
        check.same("the constructor", constructors[0].toString(), "public Switchgear()");
        for (Field field : Switchgear.class.getDeclaredFields()) {
            check.same(field + " is private", Modifier.isPrivate(field.getModifiers()), true);
            check.same(field + " is no static variable", Modifier.isStatic(field.getModifiers())
                && !Modifier.isFinal(field.getModifiers()), false);
        }
        for (Class<?> inside : Switchgear.class.getDeclaredClasses()) {
            check.same(inside + " is static", Modifier.isStatic(inside.getModifiers()), true);
            check.same(inside + " is hidden",
                Modifier.isPublic(inside.getModifiers()) || Modifier.isProtected(inside.getModifiers()), false);
        }
    }

    /** A few rules of LANGUAGE.md that can be seen from the text alone. */
    private static void source(Check check, String text) {
        String code = text.replaceAll("(?s)/\\*.*?\\*/", "").replaceAll("//.*", "");
        String[] ruledOut = {"->", "::", "\\bcatch\\b", "\\bfinally\\b", "\\bassert\\b", "\\bsynchronized\\b",
            "\\bStream", "\\bObjects\\b", "Exact\\b", "\\bSystem\\.(?!arraycopy)", "\\bpackage\\b", "\" \\+", "\\+ \""};
        for (String pattern : ruledOut) {
            Matcher found = Pattern.compile(pattern).matcher(code);
            check.same("'" + pattern + "' in the source", found.find(), false);
        }
        check.same("imports", code.lines().filter(line -> line.startsWith("import")).collect(Collectors.toList()),
            List.of("import java.util.NoSuchElementException;"));
        check.same("signs above 127 in the source", text.chars().filter(sign -> sign > 127).count(), 0L);
    }
}
