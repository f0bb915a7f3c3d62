import java.lang.reflect.InvocationTargetException;
import java.lang.reflect.Method;
import java.util.ArrayList;
import java.util.Arrays;
import java.util.Collections;
import java.util.Comparator;
import java.util.HashMap;
import java.util.List;
import java.util.Map;
import java.util.Random;

/**
 * Long runs of calls, each made on the class and on the model: all promises, in states that nobody
 * would think of, and with arguments from everywhere. The seeds are fixed, so a run can be repeated.
 */
public final class ModelTest {
    private static final int RUNS = 600;
    private static final int PLANS = 1000;
    private static final int CALLS = 512;
    private static final int[] ODD = {-1, -2, 10, 12, 13, 31, 32, 100, 1000, 100000, Integer.MIN_VALUE,
        Integer.MAX_VALUE};
    private static final List<String> DEAR = List.of("bestValue", "bestSize", "bestAt", "valueByTrying",
        "sizeByTrying", "restore");
    private static final List<String> CHANGING = List.of("addSource", "addBus", "addLine", "setLoad", "setRelay",
        "close", "open", "fault", "repair", "reset", "restore");

    private final Random random;
    private final Check check;
    private final Switchgear gear = new Switchgear();
    private final Model model = new Model();
    private final int run;
    private int calls;

    private ModelTest(int run, Check check) {
        this.run = run;
        this.check = check;
        random = new Random(run);
    }

    public static void main(String[] args) throws Exception {
        Check check = new Check("ModelTest");
        for (int run = 0; run < RUNS; run++) {
            new ModelTest(run, check).play();
        }
        for (int run = RUNS; run < RUNS + PLANS; run++) {
            new ModelTest(run, check).plan();
        }
        check.end();
    }

    private static final Map<String, Method> GEAR = byName(Switchgear.class);
    private static final Map<String, Method> MODEL = byName(Model.class);
    private static final List<String> NAMES = GEAR.keySet().stream().sorted(Comparator.naturalOrder()).toList();

    private static Map<String, Method> byName(Class<?> type) {
        Map<String, Method> found = new HashMap<>();
        for (Method method : type.getDeclaredMethods()) {
            if (java.lang.reflect.Modifier.isPublic(method.getModifiers())) {
                found.put(method.getName(), method);
            }
        }
        return found;
    }

    /** Calls what comes; some runs have few faults, some many, some leave many calls for the questions at the end. */
    private void play() throws Exception {
        build(5 + random.nextInt(8));
        int faultsOfThousand = new int[] {0, 5, 20, 60}[random.nextInt(4)];
        int last = 100 + random.nextInt(350);
        while (calls < last) {
            oneCall(faultsOfThousand);
        }
        List<String> shuffled = new ArrayList<>(NAMES);
        Collections.shuffle(shuffled, random);
        for (String name : shuffled) {
            sweep(name);
        }
    }

    /** Asks for the best plan of a network of which little is closed, and closes it. */
    private void plan() throws Exception {
        build(run % 20 == 0 ? 12 : 3 + random.nextInt(7));
        for (int closings = random.nextInt(5); closings > 0; closings--) {
            both("close", line());
        }
        both("bestValue");
        both("bestSize");
        for (int index = random.nextInt(3); index < 9; index += 1 + random.nextInt(6)) {
            both("bestAt", index);
        }
        both("valueByTrying");
        both("sizeByTrying");
        both("restore");
        sweep("isClosed");
        sweep("current");
    }

    /** A network that hangs together if it has lines enough; some have strong lines and sources, some weak ones. */
    private void build(int lines) throws Exception {
        int sources = 1 + random.nextInt(3);
        int buses = Math.min(10 - sources, 3 + random.nextInt(7));
        int load = 1 + random.nextInt(99);
        int capacity = load * (1 + random.nextInt(8));
        int rating = load * (1 + random.nextInt(8));
        int least = random.nextBoolean() ? 1 : load;
        List<Integer> kinds = new ArrayList<>();
        for (int node = 0; node < buses + sources; node++) {
            kinds.add(node);
        }
        Collections.shuffle(kinds, random);
        for (int kind : kinds) {
            if (kind < sources) {
                both("addSource", Math.min(999, least + random.nextInt(capacity)));
            } else {
                both("addBus", random.nextInt(5) == 0 ? 0 : random.nextInt(load + 1), random.nextInt(10));
            }
        }
        int breakersOfTen = 6 + random.nextInt(5);
        for (int line = 0; line < lines; line++) {
            int one = line + 1 < kinds.size() ? line + 1 : node();
            int other = line + 1 < kinds.size() ? random.nextInt(line + 1) : node();
            both("addLine", one, other, least + random.nextInt(rating), random.nextInt(10) < breakersOfTen);
        }
    }

    private int node() {
        return random.nextInt(40) == 0 ? ODD[random.nextInt(ODD.length)] : random.nextInt(model.nodes());
    }

    private int line() {
        return random.nextInt(40) == 0 ? ODD[random.nextInt(ODD.length)] : random.nextInt(model.lines() + 1);
    }

    private int number(int most) {
        return random.nextInt(20) == 0 ? ODD[random.nextInt(ODD.length)] : random.nextInt(most + 1);
    }

    private void oneCall(int faultsOfThousand) throws Exception {
        if (random.nextInt(1000) < faultsOfThousand) {
            both("fault", line());
        }
        int dice = random.nextInt(100);
        if (dice < 22) {
            both("close", line());
        } else if (dice < 27) {
            both("open", line());
        } else if (dice < 35) {
            both("repair", line());
        } else if (dice < 43) {
            both("reset", line());
        } else if (dice < 46) {
            both("setLoad", node(), number(40));
        } else if (dice < 52) {
            int pickup = number(200);
            both("setRelay", line(), pickup, number(10), random.nextBoolean() ? 0 : pickup + number(200));
        } else if (dice < 53) {
            both("restore");
        } else {
            String name = NAMES.get(random.nextInt(NAMES.size()));
            if (!DEAR.contains(name) || random.nextInt(4) == 0) {
                both(name, argumentsFor(name));
            }
        }
    }

    private Object[] argumentsFor(String name) {
        return switch (GEAR.get(name).getParameterCount()) {
            case 0 -> new Object[0];
            case 1 -> new Object[] {name.equals("addSource") ? number(1000)
                : name.equals("bestAt") ? number(3) : line()};
            case 2 -> new Object[] {line(), number(name.equals("tripTime") ? 1000 : 12)};
            default -> name.equals("addLine") ? new Object[] {node(), node(), number(999), random.nextBoolean()}
                : new Object[] {line(), number(999), number(10), number(999)};
        };
    }

    /** Asks what can be asked of every node and line at the end of a run. */
    private void sweep(String name) throws Exception {
        boolean changes = CHANGING.contains(name);
        int count = GEAR.get(name).getParameterCount();
        if (!changes && count == 0) {
            both(name);
        }
        for (int number = -1; number <= 12 && !changes && count > 0; number++) {
            if (count == 1) {
                both(name, number);
            }
            for (int second = -1; second < 14 && count == 2; second++) {
                both(name, number, second);
            }
        }
    }

    /** Calls nothing any more when an object has had all its calls, for what later ones answer is free. */
    private void both(String name, Object... arguments) throws Exception {
        if (calls == CALLS) {
            return;
        }
        calls++;
        Object due = answer(MODEL.get(name), model, arguments);
        Object got = answer(GEAR.get(name), gear, arguments);
        check.same("run " + run + ": " + name + Arrays.toString(arguments), got, due);
    }

    private static Object answer(Method method, Object on, Object[] arguments) throws Exception {
        try {
            return method.invoke(on, arguments);
        } catch (InvocationTargetException e) {
            Throwable cause = e.getCause();
            boolean byMachine = "/ by zero".equals(cause.getMessage());
            return byMachine ? "a division by zero" : cause.getClass();
        }
    }
}
