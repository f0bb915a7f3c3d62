import java.lang.reflect.InvocationTargetException;
import java.lang.reflect.Method;
import java.util.ArrayList;
import java.util.Arrays;
import java.util.Comparator;
import java.util.HashMap;
import java.util.List;
import java.util.Map;
import java.util.Random;

/**
 * Long runs of calls, each made on the class and on the model: all promises, in states that nobody
 * would think of, and with arguments from everywhere. The seeds are fixed, so a run can be repeated.
 */
public final class ModelTest {
    private static final int RUNS = 400;
    private static final int CALLS = 512;
    private static final int[] ODD = {-1, -2, 10, 12, 13, 31, 32, 100, 1000, 100000, Integer.MIN_VALUE,
        Integer.MAX_VALUE};
    private static final List<String> DEAR = List.of("bestValue", "bestSize", "bestAt", "valueByTrying",
        "sizeByTrying", "restore");

    private final Random random;
    private final Check check;
    private final Switchgear gear = new Switchgear();
    private final Model model = new Model();
    private final int run;

    private ModelTest(int run, Check check) {
        this.run = run;
        this.check = check;
        random = new Random(run);
    }

    public static void main(String[] args) throws Exception {
        Check check = new Check("ModelTest");
        for (int run = 0; run < RUNS; run++) {
            new ModelTest(run, check).play();
        }
        check.end();
    }

    private static final Map<String, Method> GEAR = byName(Switchgear.class);
    private static final Map<String, Method> MODEL = byName(Model.class);
    private static final List<String> NAMES = GEAR.keySet().stream().sorted(Comparator.naturalOrder()).toList();

    private static Map<String, Method> byName(Class<?> type) {
        Map<String, Method> found = new HashMap<>();
        for (Method method : type.getDeclaredMethods()) {
            if (java.lang.reflect.Modifier.isPublic(method.getModifiers())) {
                found.put(method.getName(), method);
            }
        }
        return found;
    }

    private void play() throws Exception {
        int buses = 3 + random.nextInt(6);
        int sources = 1 + random.nextInt(Math.min(3, 10 - buses));
        int scale = 1 + random.nextInt(99);
        List<Integer> kinds = new ArrayList<>();
        for (int node = 0; node < buses + sources; node++) {
            kinds.add(node);
        }
        java.util.Collections.shuffle(kinds, random);
        for (int kind : kinds) {
            if (kind < sources) {
                both("addSource", Math.min(999, 1 + random.nextInt(3 * scale + 20)));
            } else {
                both("addBus", random.nextInt(5) == 0 ? 0 : random.nextInt(scale + 1), random.nextInt(10));
            }
        }
        int lines = 3 + random.nextInt(10);
        for (int line = 0; line < lines; line++) {
            both("addLine", node(), node(), 1 + random.nextInt(2 * scale), random.nextInt(4) > 0);
        }
        for (int calls = kinds.size() + lines; calls < CALLS; calls++) {
            oneCall();
        }
        for (String name : NAMES) {
            sweep(name);
        }
    }

    private int node() {
        return random.nextInt(40) == 0 ? ODD[random.nextInt(ODD.length)] : random.nextInt(model.nodes() + 1);
    }

    private int line() {
        return random.nextInt(40) == 0 ? ODD[random.nextInt(ODD.length)] : random.nextInt(model.lines() + 1);
    }

    private int number(int most) {
        return random.nextInt(20) == 0 ? ODD[random.nextInt(ODD.length)] : random.nextInt(most + 1);
    }

    private void oneCall() throws Exception {
        int dice = random.nextInt(100);
        if (dice < 18) {
            both("close", line());
        } else if (dice < 24) {
            both("open", line());
        } else if (dice < 30) {
            both("fault", line());
        } else if (dice < 38) {
            both("repair", line());
        } else if (dice < 46) {
            both("reset", line());
        } else if (dice < 52) {
            both("setLoad", node(), number(40));
        } else if (dice < 58) {
            int pickup = number(200);
            both("setRelay", line(), pickup, number(10), random.nextBoolean() ? 0 : pickup + number(200));
        } else if (dice < 59) {
            both("restore");
        } else {
            String name = NAMES.get(random.nextInt(NAMES.size()));
            if (!DEAR.contains(name) || random.nextInt(4) == 0) {
                both(name, argumentsFor(name));
            }
        }
    }

    private Object[] argumentsFor(String name) {
        return switch (GEAR.get(name).getParameterCount()) {
            case 0 -> new Object[0];
            case 1 -> new Object[] {name.equals("addSource") ? number(1000) : line()};
            case 2 -> new Object[] {line(), number(name.equals("tripTime") ? 1000 : 12)};
            default -> name.equals("addLine") ? new Object[] {node(), node(), number(99), random.nextBoolean()}
                : new Object[] {line(), number(999), number(10), number(999)};
        };
    }

    /** Asks what can be asked of every node and line at the end of a run. */
    private void sweep(String name) throws Exception {
        boolean changes = List.of("addSource", "addBus", "addLine", "setLoad", "setRelay", "close", "open", "fault",
            "repair", "reset", "restore").contains(name);
        int count = GEAR.get(name).getParameterCount();
        if (!changes && count == 0) {
            both(name);
        }
        for (int number = -1; number <= 12 && !changes && count > 0; number++) {
            if (count == 1) {
                both(name, number);
            }
            for (int second = -1; second < 14 && count == 2; second++) {
                both(name, number, second);
            }
        }
    }

    private void both(String name, Object... arguments) throws Exception {
        Object due = answer(MODEL.get(name), model, arguments);
        Object got = answer(GEAR.get(name), gear, arguments);
        check.same("run " + run + ": " + name + Arrays.toString(arguments), got, due);
    }

    private static Object answer(Method method, Object on, Object[] arguments) throws Exception {
        try {
            return method.invoke(on, arguments);
        } catch (InvocationTargetException e) {
            Throwable cause = e.getCause();
            boolean byMachine = "/ by zero".equals(cause.getMessage());
            return byMachine ? "a division by zero" : cause.getClass();
        }
    }
}
