import java.util.NoSuchElementException;

/** The boundary cases of "Nodes and lines" and of promises 1 to 4 and 15 to 22. */
public final class EdgeNodesTest {
    private static final Class<IllegalArgumentException> ARGUMENT = IllegalArgumentException.class;
    private static final Class<IllegalStateException> STATE = IllegalStateException.class;
    private static final Class<NoSuchElementException> NO_SUCH = NoSuchElementException.class;
    private static final Class<UnsupportedOperationException> UNSUPPORTED = UnsupportedOperationException.class;
    private static final Check CHECK = new Check("EdgeNodesTest");

    public static void main(String[] args) {
        withoutNodesAndLines();
        atMostTenNodes();
        tenSources();
        capacityFrom1To999();
        loadFrom0To99();
        priorityFrom0To9();
        atMostTwelveLines();
        twoDifferentEnds();
        endsThatExist();
        severalLinesConnectTheSameNodes();
        ratingFrom1To999();
        openAtFirst();
        breakerOrDisconnector();
        loadOfSourceIs0();
        fullNetwork();
        last512thCall();
        CHECK.end();
    }

    private static void missingNode(Switchgear gear, int node) {
        Net.OF_NODE.forEach((name, call) ->
            CHECK.throwing(name + "(" + node + ") without the node", NO_SUCH, () -> call.apply(gear, node)));
    }

    private static void missingLine(Switchgear gear, int line) {
        Net.OF_LINE.forEach((name, call) ->
            CHECK.throwing(name + "(" + line + ") without the line", NO_SUCH, () -> call.apply(gear, line)));
    }

    /** "Creates a network without nodes and lines." */
    private static void withoutNodesAndLines() {
        Switchgear gear = new Switchgear();
        CHECK.same("nodes()", gear.nodes(), 0);
        CHECK.same("lines()", gear.lines(), 0);
        CHECK.same("islands()", gear.islands(), 0);
        CHECK.same("trips()", gear.trips(), 0);
        CHECK.same("darkLoad()", gear.darkLoad(), 0);
        CHECK.same("bestValue()", gear.bestValue(), 0);
        CHECK.same("bestSize()", gear.bestSize(), 0);
        CHECK.same("valueByTrying()", gear.valueByTrying(), 0);
        CHECK.same("sizeByTrying()", gear.sizeByTrying(), 0);
        CHECK.same("restore()", gear.restore(), 0);
        CHECK.throwing("bestAt(0)", IndexOutOfBoundsException.class, () -> gear.bestAt(0));
        CHECK.throwing("liveShare()", ArithmeticException.class, gear::liveShare);
        CHECK.throwing("meanCurrent()", ArithmeticException.class, gear::meanCurrent);
        for (int number : new int[] {0, -1, 1, Integer.MIN_VALUE, Integer.MAX_VALUE}) {
            missingNode(gear, number);
            missingLine(gear, number);
        }
        CHECK.throwing("addLine(0, 1)", NO_SUCH, () -> gear.addLine(0, 1, 5, true));
        CHECK.throwing("addLine(0, 0)", NO_SUCH, () -> gear.addLine(0, 0, 5, true));
        CHECK.same("nodes() and lines() after it", gear.nodes() + " " + gear.lines(), "0 0");
    }

    /** "At most 10 nodes have numbers from 0 in the order in which they were added." */
    private static void atMostTenNodes() {
        Switchgear gear = new Switchgear();
        for (int node = 0; node < 10; node++) {
            boolean source = node == 0 || node == 4 || node == 9;
            int next = node;
            CHECK.throwing("loadOf(" + next + ") before it is added", NO_SUCH, () -> gear.loadOf(next));
            CHECK.same("add node " + node, source ? gear.addSource(10 + node) : gear.addBus(20 + node, node), node);
            CHECK.same("nodes()", gear.nodes(), node + 1);
            CHECK.same("islandOf(" + node + ")", gear.islandOf(node), node);
            CHECK.throwing("isSource(" + (node + 1) + ")", NO_SUCH, () -> gear.isSource(next + 1));
        }
        for (int node = 0; node < 10; node++) {
            boolean source = node == 0 || node == 4 || node == 9;
            CHECK.same("isSource(" + node + ")", gear.isSource(node), source);
            CHECK.same("loadOf(" + node + ")", gear.loadOf(node), source ? 0 : 20 + node);
        }
        CHECK.throwing("an eleventh bus", STATE, () -> gear.addBus(1, 1));
        CHECK.throwing("an eleventh source", STATE, () -> gear.addSource(1));
        CHECK.throwing("an eleventh source again", STATE, () -> gear.addSource(999));
        CHECK.same("nodes() after it", gear.nodes(), 10);
        missingNode(gear, 10);
        missingNode(gear, -1);
        CHECK.same("loadOf(8) after it", gear.loadOf(8), 28);
    }

    /** The tenth node as a source, too: nothing but sources, and nothing but buses. */
    private static void tenSources() {
        Switchgear sources = new Switchgear();
        Switchgear buses = new Switchgear();
        for (int node = 0; node < 10; node++) {
            CHECK.same("addSource", sources.addSource(999), node);
            CHECK.same("addBus", buses.addBus(99, 9), node);
        }
        CHECK.throwing("addSource to ten sources", STATE, () -> sources.addSource(1));
        CHECK.throwing("addBus to ten sources", STATE, () -> sources.addBus(0, 0));
        CHECK.throwing("addSource to ten buses", STATE, () -> buses.addSource(1));
        CHECK.throwing("addBus to ten buses", STATE, () -> buses.addBus(0, 0));
        for (int node = 0; node < 10; node++) {
            int which = node;
            CHECK.same("sourceOf a source", sources.sourceOf(node), node);
            CHECK.throwing("weight of a source", UNSUPPORTED, () -> sources.weight(which));
            CHECK.same("weight of a bus", buses.weight(node), 891);
            CHECK.same("isLive of a bus", buses.isLive(node), false);
        }
        CHECK.same("darkLoad() of ten buses", buses.darkLoad(), 990);
        CHECK.same("darkLoad() of ten sources", sources.darkLoad(), 0);
    }

    /** "A source has a capacity from 1 to 999." */
    private static void capacityFrom1To999() {
        Switchgear refused = new Switchgear();
        for (int capacity : new int[] {0, -1, -999, 1000, 1001, Integer.MIN_VALUE, Integer.MAX_VALUE}) {
            CHECK.throwing("addSource(" + capacity + ")", ARGUMENT, () -> refused.addSource(capacity));
            CHECK.same("nodes() after it", refused.nodes(), 0);
        }
        for (int capacity : new int[] {1, 2, 500, 998, 999}) {
            Switchgear gear = Net.closed(Net.star(capacity, 0), 0);
            CHECK.same("faultCurrent at capacity " + capacity, gear.faultCurrent(0), capacity * 10);
        }
        Switchgear least = Net.star(1, 1, 1);
        CHECK.same("load 1 at capacity 1", least.close(0), 'n');
        CHECK.same("load 2 at capacity 1", least.close(1), 's');
    }

    /** "A bus has a load from 0 to 99": as it is added, and as it is set. */
    private static void loadFrom0To99() {
        Switchgear gear = new Switchgear();
        for (int load : new int[] {-1, -99, 100, 101, Integer.MIN_VALUE, Integer.MAX_VALUE}) {
            CHECK.throwing("addBus(" + load + ", 0)", ARGUMENT, () -> gear.addBus(load, 0));
            CHECK.throwing("addBus(" + load + ", 9)", ARGUMENT, () -> gear.addBus(load, 9));
        }
        CHECK.same("nodes() after it", gear.nodes(), 0);
        int[] loads = {0, 1, 98, 99};
        for (int node = 0; node < loads.length; node++) {
            CHECK.same("addBus", gear.addBus(loads[node], 1), node);
            CHECK.same("loadOf", gear.loadOf(node), loads[node]);
            CHECK.same("weight", gear.weight(node), loads[node]);
        }
        for (int load : new int[] {-1, -99, 100, 101, Integer.MIN_VALUE, Integer.MAX_VALUE}) {
            CHECK.throwing("setLoad(3, " + load + ")", ARGUMENT, () -> gear.setLoad(3, load));
            CHECK.same("loadOf(3) after it", gear.loadOf(3), 99);
        }
        CHECK.same("setLoad(3, 0)", gear.setLoad(3, 0), 99);
        CHECK.same("setLoad(3, 1)", gear.setLoad(3, 1), 0);
        CHECK.same("setLoad(3, 98)", gear.setLoad(3, 98), 1);
        CHECK.same("setLoad(3, 99)", gear.setLoad(3, 99), 98);
        CHECK.same("setLoad(3, 99) again", gear.setLoad(3, 99), 99);
        CHECK.same("loadOf(3)", gear.loadOf(3), 99);
        CHECK.same("loadOf(2), which was not set", gear.loadOf(2), 98);
    }

    /** "and a priority from 0 to 9." */
    private static void priorityFrom0To9() {
        Switchgear gear = new Switchgear();
        for (int priority : new int[] {-1, -9, 10, 11, Integer.MIN_VALUE, Integer.MAX_VALUE}) {
            CHECK.throwing("addBus(0, " + priority + ")", ARGUMENT, () -> gear.addBus(0, priority));
            CHECK.throwing("addBus(99, " + priority + ")", ARGUMENT, () -> gear.addBus(99, priority));
        }
        CHECK.throwing("addBus(100, 10)", ARGUMENT, () -> gear.addBus(100, 10));
        CHECK.throwing("addBus(-1, -1)", ARGUMENT, () -> gear.addBus(-1, -1));
        CHECK.same("nodes() after it", gear.nodes(), 0);
        int[] priorities = {0, 1, 8, 9};
        for (int node = 0; node < priorities.length; node++) {
            CHECK.same("addBus", gear.addBus(99, priorities[node]), node);
            CHECK.same("weight", gear.weight(node), 99 * priorities[node]);
        }
        gear.setLoad(3, 0);
        CHECK.same("weight of no load", gear.weight(3), 0);
        gear.setLoad(3, 1);
        CHECK.same("weight of load 1", gear.weight(3), 9);
    }

    /** "At most 12 lines have numbers from 0 in the order in which they were added." */
    private static void atMostTwelveLines() {
        Switchgear gear = Net.sourceAndBuses(100, 1, 1);
        missingLine(gear, 0);
        for (int line = 0; line < 12; line++) {
            int next = line;
            CHECK.throwing("isClosed(" + next + ") before it is added", NO_SUCH, () -> gear.isClosed(next));
            CHECK.same("addLine", gear.addLine(line % 3, (line + 1) % 3, 50 + line, true), line);
            CHECK.same("lines()", gear.lines(), line + 1);
            CHECK.same("isClosed(" + line + ")", gear.isClosed(line), false);
        }
        CHECK.throwing("a thirteenth breaker", STATE, () -> gear.addLine(0, 1, 1, true));
        CHECK.throwing("a thirteenth disconnector", STATE, () -> gear.addLine(1, 2, 999, false));
        CHECK.same("lines() after it", gear.lines(), 12);
        missingLine(gear, 12);
        missingLine(gear, -1);
        for (int line = 0; line < 12; line++) {
            CHECK.same("the pickup, which is the rating, of " + line, gear.setRelay(line, 1, 1, 0), 50 + line);
        }
        CHECK.same("close(11)", gear.close(11), 'n');
        CHECK.same("islandOf(2), which line 11 connects with 0", gear.islandOf(2), 0);
    }

    /** "A line connects two different nodes, its ends." */
    private static void twoDifferentEnds() {
        Switchgear gear = Net.sourceAndBuses(100, Net.times(9, 1));
        for (int node = 0; node < 10; node++) {
            int same = node;
            CHECK.throwing("addLine(" + node + ", " + node + ")", ARGUMENT, () -> gear.addLine(same, same, 5, true));
        }
        CHECK.same("lines() after it", gear.lines(), 0);
        CHECK.same("addLine(9, 0)", gear.addLine(9, 0, 5, true), 0);
        CHECK.same("addLine(8, 9)", gear.addLine(8, 9, 5, true), 1);
        Net.closed(gear, 0, 1);
        CHECK.same("islandOf(9)", gear.islandOf(9), 0);
        CHECK.same("islandOf(8)", gear.islandOf(8), 0);
        CHECK.same("islandOf(7)", gear.islandOf(7), 7);
    }

    /** "Throws NoSuchElementException if one of both nodes does not exist": the one, the other one, or both. */
    private static void endsThatExist() {
        for (int count = 1; count <= 10; count++) {
            Switchgear gear = Net.sourceAndBuses(100, Net.times(count - 1, 1));
            int missing = count;
            int last = count - 1;
            CHECK.throwing("addLine(0, " + missing + ")", NO_SUCH, () -> gear.addLine(0, missing, 5, true));
            CHECK.throwing("addLine(" + missing + ", 0)", NO_SUCH, () -> gear.addLine(missing, 0, 5, true));
            CHECK.throwing("addLine(-1, " + last + ")", NO_SUCH, () -> gear.addLine(-1, last, 5, false));
            CHECK.throwing("addLine(" + last + ", -1)", NO_SUCH, () -> gear.addLine(last, -1, 5, false));
            CHECK.throwing("addLine(-1, " + missing + ")", NO_SUCH, () -> gear.addLine(-1, missing, 5, true));
            CHECK.same("lines() after it", gear.lines(), 0);
            if (count > 1) {
                CHECK.same("addLine(0, " + last + ")", gear.addLine(0, last, 5, true), 0);
            }
        }
    }

    /** "Several lines may connect the same nodes." */
    private static void severalLinesConnectTheSameNodes() {
        Switchgear gear = Net.sourceAndBuses(100, 7);
        for (int line = 0; line < 12; line++) {
            CHECK.same("addLine", gear.addLine(line % 2, 1 - line % 2, line + 1, line < 6), line);
        }
        CHECK.same("close(5) of too small a rating", gear.close(5), 'l');
        CHECK.same("close(11), a disconnector", gear.close(11), 'd');
        gear.setLoad(1, 6);
        CHECK.same("close(5)", gear.close(5), 'n');
        for (int line = 0; line < 12; line++) {
            CHECK.same("close(" + line + ") beside it", gear.close(line), line == 5 ? 'c' : 'r');
            CHECK.same("current(" + line + ")", gear.current(line), line == 5 ? 6 : 0);
        }
        CHECK.same("open(5)", gear.open(5), 'n');
        gear.setLoad(1, 0);
        CHECK.same("close(11) without load", gear.close(11), 'n');
        CHECK.same("pathAt(11, 0)", gear.pathAt(11, 0), 11);
    }

    /** "A line has a rating from 1 to 999." */
    private static void ratingFrom1To999() {
        Switchgear refused = Net.sourceAndBuses(100, 1);
        for (int rating : new int[] {0, -1, -999, 1000, 1001, Integer.MIN_VALUE, Integer.MAX_VALUE}) {
            CHECK.throwing("addLine(0, 1, " + rating + ", true)", ARGUMENT, () -> refused.addLine(0, 1, rating, true));
            CHECK.throwing("addLine(0, 1, " + rating + ", false)", ARGUMENT,
                () -> refused.addLine(0, 1, rating, false));
            CHECK.same("lines() after it", refused.lines(), 0);
        }
        int[] ratings = {1, 2, 98, 99, 998, 999};
        for (int rating : ratings) {
            Switchgear gear = Net.sourceAndBuses(999, rating < 99 ? rating + 1 : 99);
            CHECK.same("addLine", gear.addLine(0, 1, rating, true), 0);
            CHECK.same("a load above the rating " + rating, gear.close(0), rating < 99 ? 'l' : 'n');
            gear.setLoad(1, rating < 99 ? rating : 99);
            CHECK.same("a load of the rating " + rating, gear.close(0), rating < 99 ? 'n' : 'c');
            CHECK.same("the pickup of a new relay", gear.setRelay(0, 5, 1, 0), rating);
        }
    }

    /** "It is closed or open, and open at first. A line can have a fault, and can be locked out." */
    private static void openAtFirst() {
        for (boolean breaker : new boolean[] {true, false}) {
            Switchgear gear = Net.sourceAndBuses(100, 0);
            gear.addLine(0, 1, 50, breaker);
            CHECK.same("isClosed(0)", gear.isClosed(0), false);
            CHECK.same("isLocked(0)", gear.isLocked(0), false);
            CHECK.same("hasFault(0)", gear.hasFault(0), false);
            CHECK.same("current(0)", gear.current(0), 0);
            CHECK.same("canOpen(0)", gear.canOpen(0), 'c');
            CHECK.same("canClose(0)", gear.canClose(0), 'n');
            CHECK.same("islands()", gear.islands(), 2);
        }
    }

    /** "and is switched by a breaker or by a disconnector": the first and the last line, either way. */
    private static void breakerOrDisconnector() {
        Switchgear gear = Net.sourceAndBuses(100, 1);
        for (int line = 0; line < 12; line++) {
            gear.addLine(0, 1, 50, line % 11 == 0);
        }
        for (int line = 0; line < 12; line++) {
            int which = line;
            if (line % 11 == 0) {
                CHECK.same("tripTime of a breaker", gear.tripTime(line, 51), 502);
                CHECK.same("canClose of a breaker", gear.canClose(line), 'n');
            } else {
                CHECK.throwing("tripTime of a disconnector", UNSUPPORTED, () -> gear.tripTime(which, 51));
                CHECK.throwing("setRelay of a disconnector", UNSUPPORTED, () -> gear.setRelay(which, 50, 1, 0));
                CHECK.same("canClose of a disconnector", gear.canClose(line), 'd');
            }
        }
    }

    /** "Returns the load, 0 for a source"; a source has no weight. */
    private static void loadOfSourceIs0() {
        Switchgear gear = Net.closed(Net.star(999, 99), 0);
        CHECK.same("loadOf(0)", gear.loadOf(0), 0);
        CHECK.throwing("weight(0)", UNSUPPORTED, () -> gear.weight(0));
        CHECK.throwing("setLoad(0, 0)", UNSUPPORTED, () -> gear.setLoad(0, 0));
        CHECK.throwing("setLoad(0, 99)", UNSUPPORTED, () -> gear.setLoad(0, 99));
        CHECK.same("loadOf(0) after it", gear.loadOf(0), 0);
        CHECK.same("islandLoad(0) after it", gear.islandLoad(0), 99);
    }

    /** Ten nodes and twelve lines at once: the last of both serve as the others do. */
    private static void fullNetwork() {
        Switchgear gear = Net.chain(999, Net.times(9, 99));
        CHECK.same("the tenth line", gear.addLine(0, 9, 999, true), 9);
        CHECK.same("the eleventh line", gear.addLine(9, 1, 999, false), 10);
        CHECK.same("the twelfth line", gear.addLine(9, 8, 999, true), 11);
        CHECK.throwing("an eleventh node", STATE, () -> gear.addBus(0, 0));
        CHECK.throwing("a thirteenth line", STATE, () -> gear.addLine(9, 8, 999, true));
        Net.closed(gear, 9, 11);
        CHECK.same("current(11)", gear.current(11), 99);
        CHECK.same("current(9)", gear.current(9), 198);
        CHECK.same("distance(11)", gear.distance(11), 2);
        CHECK.same("fault(11)", gear.fault(11), 11);
        CHECK.same("isLocked(11)", gear.isLocked(11), true);
        CHECK.same("hasFault(11)", gear.hasFault(11), true);
        CHECK.same("canClose(11)", gear.canClose(11), 'o');
        CHECK.same("repair(11)", gear.repair(11), true);
        CHECK.same("reset(11)", gear.reset(11), 0);
        CHECK.same("close(11)", gear.close(11), 'n');
        CHECK.same("setLoad(9, 0)", gear.setLoad(9, 0), 99);
        CHECK.same("current(9) after it", gear.current(9), 99);
    }

    /** "An object is used for at most 512 calls": the 512th one answers as the others do. */
    private static void last512thCall() {
        Switchgear gear = Net.star(100, 5);
        for (int round = 1; round <= 127; round++) {
            CHECK.same("close(0)", gear.close(0), 'n');
            CHECK.same("fault(0)", gear.fault(0), 0);
            CHECK.same("repair(0)", gear.repair(0), true);
            CHECK.same("reset(0)", gear.reset(0), 0);
        }
        CHECK.same("trips() as the 512th call", gear.trips(), 127);
    }
}
