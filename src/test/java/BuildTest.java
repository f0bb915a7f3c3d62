import java.util.NoSuchElementException;

/** Promises 1 to 6 and 15 to 22: adding, setting, and what nodes and lines tell of themselves. */
public final class BuildTest {
    private static final Class<IllegalArgumentException> ARGUMENT = IllegalArgumentException.class;
    private static final Class<IllegalStateException> STATE = IllegalStateException.class;
    private static final Class<NoSuchElementException> NO_SUCH = NoSuchElementException.class;
    private static final Class<UnsupportedOperationException> UNSUPPORTED = UnsupportedOperationException.class;
    private static final Check CHECK = new Check("BuildTest");

    public static void main(String[] args) {
        newObject();
        sources();
        buses();
        lines();
        loads();
        loadsOfLiveIslands();
        relays();
        CHECK.end();
    }

    private static void newObject() {
        Switchgear gear = new Switchgear();
        CHECK.same("nodes() of a new object", gear.nodes(), 0);
        CHECK.same("lines() of a new object", gear.lines(), 0);
        CHECK.same("islands() of a new object", gear.islands(), 0);
        CHECK.same("trips() of a new object", gear.trips(), 0);
        CHECK.same("darkLoad() of a new object", gear.darkLoad(), 0);
        CHECK.throwing("isSource(0) of a new object", NO_SUCH, () -> gear.isSource(0));
        CHECK.throwing("isClosed(0) of a new object", NO_SUCH, () -> gear.isClosed(0));
    }

    private static void sources() {
        Switchgear gear = new Switchgear();
        for (int capacity : new int[] {0, -1, 1000, Integer.MIN_VALUE, Integer.MAX_VALUE}) {
            CHECK.throwing("addSource(" + capacity + ")", ARGUMENT, () -> gear.addSource(capacity));
        }
        CHECK.same("nodes() after wrong sources", gear.nodes(), 0);
        for (int number = 0; number < 10; number++) {
            CHECK.same("addSource", gear.addSource(number % 2 == 0 ? 1 : 999), number);
            CHECK.same("nodes()", gear.nodes(), number + 1);
        }
        CHECK.throwing("an 11th source", STATE, () -> gear.addSource(5));
        CHECK.throwing("an 11th source out of range", ARGUMENT, () -> gear.addSource(0));
        CHECK.throwing("an 11th bus", STATE, () -> gear.addBus(5, 5));
        CHECK.throwing("an 11th bus out of range", ARGUMENT, () -> gear.addBus(5, 10));
        CHECK.same("nodes() when full", gear.nodes(), 10);
        CHECK.same("isSource(9)", gear.isSource(9), true);
        CHECK.same("loadOf(9)", gear.loadOf(9), 0);
        CHECK.throwing("weight(9)", UNSUPPORTED, () -> gear.weight(9));
        CHECK.throwing("weight(10)", NO_SUCH, () -> gear.weight(10));
    }

    private static void buses() {
        Switchgear gear = new Switchgear();
        int[][] wrong = {{-1, 0}, {100, 0}, {0, -1}, {0, 10}, {Integer.MIN_VALUE, 1}, {1, Integer.MAX_VALUE}};
        for (int[] pair : wrong) {
            CHECK.throwing("addBus(" + pair[0] + ", " + pair[1] + ")", ARGUMENT, () -> gear.addBus(pair[0], pair[1]));
        }
        CHECK.same("addBus(0, 9)", gear.addBus(0, 9), 0);
        CHECK.same("addBus(99, 0)", gear.addBus(99, 0), 1);
        CHECK.same("addBus(99, 9)", gear.addBus(99, 9), 2);
        CHECK.same("addBus(7, 6)", gear.addBus(7, 6), 3);
        CHECK.same("weights", gear.weight(0) + " " + gear.weight(1) + " " + gear.weight(2) + " " + gear.weight(3),
            "0 0 891 42");
        CHECK.same("loads", gear.loadOf(0) + " " + gear.loadOf(1) + " " + gear.loadOf(2) + " " + gear.loadOf(3),
            "0 99 99 7");
        CHECK.same("isSource(2)", gear.isSource(2), false);
        for (int number = 4; number < 10; number++) {
            CHECK.same("addBus", gear.addBus(1, 1), number);
        }
        CHECK.throwing("an 11th bus", STATE, () -> gear.addBus(1, 1));
        CHECK.throwing("an 11th source", STATE, () -> gear.addSource(1));
        for (int node : new int[] {-1, 10, Integer.MIN_VALUE, Integer.MAX_VALUE}) {
            CHECK.throwing("isSource(" + node + ")", NO_SUCH, () -> gear.isSource(node));
            CHECK.throwing("loadOf(" + node + ")", NO_SUCH, () -> gear.loadOf(node));
            CHECK.throwing("weight(" + node + ")", NO_SUCH, () -> gear.weight(node));
        }
    }

    private static void lines() {
        Switchgear gear = new Switchgear();
        gear.addSource(100);
        gear.addBus(10, 1);
        CHECK.throwing("addLine(2, 2, 0)", NO_SUCH, () -> gear.addLine(2, 2, 0, true));
        CHECK.throwing("addLine(0, -1, 0)", NO_SUCH, () -> gear.addLine(0, -1, 0, true));
        CHECK.throwing("addLine(2, 0, 5)", NO_SUCH, () -> gear.addLine(2, 0, 5, true));
        CHECK.throwing("addLine(1, 1, 5)", ARGUMENT, () -> gear.addLine(1, 1, 5, true));
        CHECK.throwing("addLine(0, 1, 0)", ARGUMENT, () -> gear.addLine(0, 1, 0, true));
        CHECK.throwing("addLine(0, 1, 1000)", ARGUMENT, () -> gear.addLine(0, 1, 1000, false));
        CHECK.same("lines() after wrong lines", gear.lines(), 0);
        for (int number = 0; number < 12; number++) {
            CHECK.same("addLine", gear.addLine(number % 2, 1 - number % 2, number < 6 ? 999 : 1, true), number);
            CHECK.same("lines()", gear.lines(), number + 1);
            CHECK.same("a new line", gear.isClosed(number) || gear.isLocked(number) || gear.hasFault(number), false);
        }
        CHECK.throwing("a 13th line", STATE, () -> gear.addLine(0, 1, 5, true));
        CHECK.throwing("a 13th line out of range", ARGUMENT, () -> gear.addLine(0, 1, 0, true));
        CHECK.throwing("a 13th line to nowhere", NO_SUCH, () -> gear.addLine(0, 2, 0, true));
        CHECK.same("lines() when full", gear.lines(), 12);
        for (int line : new int[] {-1, 12, Integer.MIN_VALUE, Integer.MAX_VALUE}) {
            CHECK.throwing("isClosed(" + line + ")", NO_SUCH, () -> gear.isClosed(line));
            CHECK.throwing("isLocked(" + line + ")", NO_SUCH, () -> gear.isLocked(line));
            CHECK.throwing("hasFault(" + line + ")", NO_SUCH, () -> gear.hasFault(line));
        }
    }

    private static void loads() {
        Switchgear gear = new Switchgear();
        gear.addSource(1);
        gear.addBus(10, 3);
        CHECK.same("setLoad in the dark", gear.setLoad(1, 99), 10);
        CHECK.same("loadOf", gear.loadOf(1), 99);
        CHECK.same("weight", gear.weight(1), 297);
        CHECK.same("setLoad to 0", gear.setLoad(1, 0), 99);
        CHECK.throwing("setLoad(2, 100)", NO_SUCH, () -> gear.setLoad(2, 100));
        CHECK.throwing("setLoad(-1, 1)", NO_SUCH, () -> gear.setLoad(-1, 1));
        CHECK.throwing("setLoad(0, 100)", ARGUMENT, () -> gear.setLoad(0, 100));
        CHECK.throwing("setLoad(0, -1)", ARGUMENT, () -> gear.setLoad(0, -1));
        CHECK.throwing("setLoad(0, 0)", UNSUPPORTED, () -> gear.setLoad(0, 0));
        CHECK.same("loadOf after wrong loads", gear.loadOf(1), 0);
    }

    private static void loadsOfLiveIslands() {
        Switchgear gear = new Switchgear();
        gear.addSource(50);
        gear.addBus(10, 1);
        gear.addBus(10, 1);
        gear.addLine(0, 1, 45, true);
        gear.addLine(1, 2, 20, true);
        gear.close(0);
        gear.close(1);
        CHECK.same("setLoad to the rating of the farther line", gear.setLoad(2, 20), 10);
        CHECK.throwing("setLoad above the rating of the farther line", STATE, () -> gear.setLoad(2, 21));
        CHECK.same("loadOf after it", gear.loadOf(2), 20);
        CHECK.same("setLoad to the rating of the nearer line", gear.setLoad(1, 25), 10);
        CHECK.throwing("setLoad above the rating of the nearer line", STATE, () -> gear.setLoad(1, 26));
        CHECK.same("current after it", gear.current(0), 45);

        Switchgear weak = new Switchgear();
        weak.addSource(20);
        weak.addBus(5, 1);
        weak.addBus(5, 1);
        weak.addLine(0, 1, 999, true);
        weak.addLine(2, 0, 999, true);
        weak.close(0);
        weak.close(1);
        CHECK.same("setLoad to the capacity", weak.setLoad(2, 15), 5);
        CHECK.throwing("setLoad above the capacity", STATE, () -> weak.setLoad(2, 16));
        CHECK.same("setLoad to the same", weak.setLoad(2, 15), 15);
        weak.open(1);
        CHECK.same("setLoad in the dark again", weak.setLoad(2, 16), 15);
    }

    private static void relays() {
        Switchgear gear = new Switchgear();
        gear.addSource(50);
        gear.addBus(10, 1);
        gear.addLine(0, 1, 45, true);
        gear.addLine(0, 1, 45, false);
        CHECK.same("tripTime of a new relay", gear.tripTime(0, 46), 452);
        CHECK.same("tripTime at the pickup of a new relay", gear.tripTime(0, 45), -1);
        CHECK.same("setRelay", gear.setRelay(0, 999, 10, 1000), 45);
        CHECK.same("setRelay again", gear.setRelay(0, 1, 1, Integer.MAX_VALUE), 999);
        CHECK.same("setRelay without a step", gear.setRelay(0, 30, 2, 0), 1);
        CHECK.throwing("setRelay(2, 0)", NO_SUCH, () -> gear.setRelay(2, 0, 0, -1));
        CHECK.throwing("setRelay(-1, 1)", NO_SUCH, () -> gear.setRelay(-1, 1, 1, 0));
        int[][] wrong = {{0, 1, 0}, {1000, 1, 0}, {10, 0, 0}, {10, 11, 0}, {10, 1, 10}, {10, 1, 9}, {10, 1, -1},
            {-5, 1, 0}, {10, -1, 0}, {10, 1, Integer.MIN_VALUE}};
        for (int[] set : wrong) {
            for (int line = 0; line < 2; line++) {
                int which = line;
                CHECK.throwing("setRelay(" + line + ", " + set[0] + ", " + set[1] + ", " + set[2] + ")", ARGUMENT,
                    () -> gear.setRelay(which, set[0], set[1], set[2]));
            }
        }
        CHECK.throwing("setRelay of a disconnector", UNSUPPORTED, () -> gear.setRelay(1, 10, 1, 0));
        CHECK.same("tripTime after wrong relays", gear.tripTime(0, 90), 12);
    }
}
