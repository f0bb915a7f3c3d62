import java.util.LinkedHashMap;
import java.util.Map;
import java.util.function.BiFunction;

/** Small networks for the tests of the boundary cases, and the calls that take a node or a line. */
final class Net {
    /** Every call that takes the number of a node, its other arguments in range. */
    static final Map<String, BiFunction<Switchgear, Integer, Object>> OF_NODE = new LinkedHashMap<>();
    /** Every call that takes the number of a line, its other arguments in range. */
    static final Map<String, BiFunction<Switchgear, Integer, Object>> OF_LINE = new LinkedHashMap<>();

    static {
        OF_NODE.put("setLoad", (gear, node) -> gear.setLoad(node, 0));
        OF_NODE.put("isSource", Switchgear::isSource);
        OF_NODE.put("loadOf", Switchgear::loadOf);
        OF_NODE.put("weight", Switchgear::weight);
        OF_NODE.put("islandOf", Switchgear::islandOf);
        OF_NODE.put("islandByRounds", Switchgear::islandByRounds);
        OF_NODE.put("isLive", Switchgear::isLive);
        OF_NODE.put("sourceOf", Switchgear::sourceOf);
        OF_NODE.put("islandLoad", Switchgear::islandLoad);

        OF_LINE.put("setRelay", (gear, line) -> gear.setRelay(line, 1, 1, 0));
        OF_LINE.put("close", Switchgear::close);
        OF_LINE.put("open", Switchgear::open);
        OF_LINE.put("canClose", Switchgear::canClose);
        OF_LINE.put("canOpen", Switchgear::canOpen);
        OF_LINE.put("overloaded", Switchgear::overloaded);
        OF_LINE.put("fault", Switchgear::fault);
        OF_LINE.put("repair", Switchgear::repair);
        OF_LINE.put("reset", Switchgear::reset);
        OF_LINE.put("isClosed", Switchgear::isClosed);
        OF_LINE.put("isLocked", Switchgear::isLocked);
        OF_LINE.put("hasFault", Switchgear::hasFault);
        OF_LINE.put("current", Switchgear::current);
        OF_LINE.put("currentByCutting", Switchgear::currentByCutting);
        OF_LINE.put("distance", Switchgear::distance);
        OF_LINE.put("pathAt", (gear, line) -> gear.pathAt(line, 0));
        OF_LINE.put("faultCurrent", Switchgear::faultCurrent);
        OF_LINE.put("tripTime", (gear, line) -> gear.tripTime(line, 1));
        OF_LINE.put("wouldTrip", Switchgear::wouldTrip);
        OF_LINE.put("isSelective", Switchgear::isSelective);
        OF_LINE.put("margin", Switchgear::margin);
    }

    private Net() {
    }

    /** Source 0 and buses of priority 1; line i, a breaker of rating 999, leads from 0 to i + 1 and is open. */
    static Switchgear star(int capacity, int... loads) {
        Switchgear gear = sourceAndBuses(capacity, loads);
        for (int line = 0; line < loads.length; line++) {
            gear.addLine(0, line + 1, 999, true);
        }
        return gear;
    }

    /** Source 0 and buses of priority 1; line i, a breaker of rating 999, leads from i to i + 1 and is open. */
    static Switchgear chain(int capacity, int... loads) {
        Switchgear gear = sourceAndBuses(capacity, loads);
        for (int line = 0; line < loads.length; line++) {
            gear.addLine(line, line + 1, 999, true);
        }
        return gear;
    }

    static Switchgear sourceAndBuses(int capacity, int... loads) {
        Switchgear gear = new Switchgear();
        gear.addSource(capacity);
        for (int load : loads) {
            gear.addBus(load, 1);
        }
        return gear;
    }

    /** Closes lines that can be closed; a test that starts from another state than it says would be worth nothing. */
    static Switchgear closed(Switchgear gear, int... lines) {
        for (int line : lines) {
            char reason = gear.close(line);
            if (reason != 'n') {
                throw new AssertionError("line " + line + " is to be closed, but has the reason " + reason);
            }
        }
        return gear;
    }

    static int[] times(int count, int number) {
        int[] all = new int[count];
        java.util.Arrays.fill(all, number);
        return all;
    }

    static int[] upTo(int count) {
        int[] all = new int[count];
        for (int number = 0; number < count; number++) {
            all[number] = number;
        }
        return all;
    }
}
