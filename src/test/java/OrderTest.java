import java.util.NoSuchElementException;

/** "If several exceptions apply, the one that is listed first is thrown": every two that can apply at once. */
public final class OrderTest {
    private static final Class<IllegalArgumentException> ARGUMENT = IllegalArgumentException.class;
    private static final Class<IllegalStateException> STATE = IllegalStateException.class;
    private static final Class<NoSuchElementException> NO_SUCH = NoSuchElementException.class;
    private static final Class<UnsupportedOperationException> UNSUPPORTED = UnsupportedOperationException.class;
    private static final Class<IndexOutOfBoundsException> INDEX = IndexOutOfBoundsException.class;
    private static final int[] OUTSIDE = {-1, Integer.MIN_VALUE, Integer.MAX_VALUE};
    private static final Check CHECK = new Check("OrderTest");

    public static void main(String[] args) {
        addSource();
        addBus();
        addLine();
        setLoad();
        setRelay();
        reset();
        pathAt();
        tripTime();
        margin();
        CHECK.end();
    }

    private static Switchgear full() {
        Switchgear gear = Net.star(999, Net.times(9, 1));
        for (int line = 9; line < 12; line++) {
            gear.addLine(0, 1, 1, line != 11);
        }
        return gear;
    }

    /** Argument before state. */
    private static void addSource() {
        Switchgear gear = full();
        CHECK.throwing("addSource(1)", STATE, () -> gear.addSource(1));
        CHECK.throwing("addSource(999)", STATE, () -> gear.addSource(999));
        for (int capacity : new int[] {0, 1000, Integer.MIN_VALUE, Integer.MAX_VALUE}) {
            CHECK.throwing("addSource(" + capacity + ")", ARGUMENT, () -> gear.addSource(capacity));
        }
    }

    /** Argument before state, for the load and for the priority. */
    private static void addBus() {
        Switchgear gear = full();
        CHECK.throwing("addBus(0, 0)", STATE, () -> gear.addBus(0, 0));
        CHECK.throwing("addBus(99, 9)", STATE, () -> gear.addBus(99, 9));
        int[][] wrong = {{-1, 0}, {100, 9}, {0, -1}, {99, 10}, {-1, 10}};
        for (int[] pair : wrong) {
            CHECK.throwing("addBus(" + pair[0] + ", " + pair[1] + ")", ARGUMENT, () -> gear.addBus(pair[0], pair[1]));
        }
    }

    /** No such node before argument before state. */
    private static void addLine() {
        Switchgear gear = full();
        Switchgear room = Net.sourceAndBuses(999, Net.times(9, 1));
        CHECK.throwing("addLine(0, 9, 1)", STATE, () -> gear.addLine(0, 9, 1, true));
        CHECK.same("addLine(0, 9, 1) with room", room.addLine(0, 9, 1, true), 0);
        for (Switchgear either : new Switchgear[] {gear, room}) {
            CHECK.throwing("addLine(9, 9, 1)", ARGUMENT, () -> either.addLine(9, 9, 1, true));
            CHECK.throwing("addLine(0, 9, 0)", ARGUMENT, () -> either.addLine(0, 9, 0, true));
            CHECK.throwing("addLine(0, 9, 1000)", ARGUMENT, () -> either.addLine(0, 9, 1000, false));
            CHECK.throwing("addLine(0, 10, 1)", NO_SUCH, () -> either.addLine(0, 10, 1, true));
            CHECK.throwing("addLine(10, 0, 1)", NO_SUCH, () -> either.addLine(10, 0, 1, true));
            CHECK.throwing("addLine(10, 0, 0)", NO_SUCH, () -> either.addLine(10, 0, 0, true));
            CHECK.throwing("addLine(0, 10, 1000)", NO_SUCH, () -> either.addLine(0, 10, 1000, true));
            CHECK.throwing("addLine(10, 10, 1)", NO_SUCH, () -> either.addLine(10, 10, 1, true));
            CHECK.throwing("addLine(-1, -1, 0)", NO_SUCH, () -> either.addLine(-1, -1, 0, true));
        }
    }

    /** No such node before argument before source before limits. */
    private static void setLoad() {
        Switchgear gear = Net.closed(Net.star(50, 40), 0);
        CHECK.throwing("setLoad(1, 51)", STATE, () -> gear.setLoad(1, 51));
        CHECK.throwing("setLoad(1, 99)", STATE, () -> gear.setLoad(1, 99));
        CHECK.throwing("setLoad(1, 100)", ARGUMENT, () -> gear.setLoad(1, 100));
        CHECK.throwing("setLoad(0, 99)", UNSUPPORTED, () -> gear.setLoad(0, 99));
        CHECK.throwing("setLoad(0, 0)", UNSUPPORTED, () -> gear.setLoad(0, 0));
        CHECK.throwing("setLoad(0, 100)", ARGUMENT, () -> gear.setLoad(0, 100));
        CHECK.throwing("setLoad(0, -1)", ARGUMENT, () -> gear.setLoad(0, -1));
        CHECK.throwing("setLoad(2, -1)", NO_SUCH, () -> gear.setLoad(2, -1));
        for (int node : OUTSIDE) {
            CHECK.throwing("setLoad(" + node + ", 100)", NO_SUCH, () -> gear.setLoad(node, 100));
        }
        CHECK.same("loadOf(1)", gear.loadOf(1), 40);
    }

    /** No such line before argument before disconnector. */
    private static void setRelay() {
        Switchgear gear = full();
        int[][] wrong = {{0, 1, 0}, {1000, 1, 0}, {1, 0, 0}, {1, 11, 0}, {2, 1, 2}, {2, 1, -1}};
        for (int[] set : wrong) {
            CHECK.throwing("setRelay of a breaker", ARGUMENT, () -> gear.setRelay(0, set[0], set[1], set[2]));
            CHECK.throwing("setRelay of a disconnector", ARGUMENT, () -> gear.setRelay(11, set[0], set[1], set[2]));
            CHECK.throwing("setRelay of no line", NO_SUCH, () -> gear.setRelay(12, set[0], set[1], set[2]));
            for (int line : OUTSIDE) {
                CHECK.throwing("setRelay(" + line + ")", NO_SUCH, () -> gear.setRelay(line, set[0], set[1], set[2]));
            }
        }
        CHECK.throwing("setRelay of a disconnector in range", UNSUPPORTED, () -> gear.setRelay(11, 1, 1, 0));
        CHECK.same("setRelay of a breaker in range", gear.setRelay(10, 1, 1, 0), 1);
    }

    /** No such line before fault before no lockout. */
    private static void reset() {
        Switchgear gear = Net.star(100, 0);
        CHECK.throwing("reset(0)", STATE, () -> gear.reset(0));
        gear.fault(0);
        CHECK.throwing("reset(0) with a fault and no lockout", UNSUPPORTED, () -> gear.reset(0));
        gear.repair(0);
        CHECK.throwing("reset(0) after the repair", STATE, () -> gear.reset(0));
        CHECK.throwing("reset(1)", NO_SUCH, () -> gear.reset(1));
    }

    /** No such line before no path before no index. */
    private static void pathAt() {
        Switchgear gear = Net.closed(Net.chain(100, 0, 0), 0);
        CHECK.same("pathAt(0, 0)", gear.pathAt(0, 0), 0);
        CHECK.throwing("pathAt(0, 1)", INDEX, () -> gear.pathAt(0, 1));
        CHECK.throwing("pathAt(0, -1)", INDEX, () -> gear.pathAt(0, -1));
        CHECK.throwing("pathAt(1, 0)", STATE, () -> gear.pathAt(1, 0));
        for (int index : OUTSIDE) {
            CHECK.throwing("pathAt(1, " + index + ")", STATE, () -> gear.pathAt(1, index));
            CHECK.throwing("pathAt(2, " + index + ")", NO_SUCH, () -> gear.pathAt(2, index));
            CHECK.throwing("pathAt(" + index + ", 0)", NO_SUCH, () -> gear.pathAt(index, 0));
            CHECK.throwing("pathAt(" + index + ", " + index + ")", NO_SUCH, () -> gear.pathAt(index, index));
        }
    }

    /** No such line before argument before disconnector. */
    private static void tripTime() {
        Switchgear gear = full();
        for (int current : new int[] {0, 100000, -1, Integer.MIN_VALUE, Integer.MAX_VALUE}) {
            CHECK.throwing("tripTime(0, " + current + ")", ARGUMENT, () -> gear.tripTime(0, current));
            CHECK.throwing("tripTime(11, " + current + ")", ARGUMENT, () -> gear.tripTime(11, current));
            CHECK.throwing("tripTime(12, " + current + ")", NO_SUCH, () -> gear.tripTime(12, current));
            CHECK.throwing("tripTime(-1, " + current + ")", NO_SUCH, () -> gear.tripTime(-1, current));
        }
        CHECK.throwing("tripTime(11, 1)", UNSUPPORTED, () -> gear.tripTime(11, 1));
        CHECK.throwing("tripTime(11, 99999)", UNSUPPORTED, () -> gear.tripTime(11, 99999));
    }

    /** No such line before no selectivity before no other relay that trips. */
    private static void margin() {
        Switchgear gear = Net.chain(100, 0, 0);
        CHECK.throwing("margin(0), open, and no other relay", STATE, () -> gear.margin(0));
        Net.closed(gear, 0, 1);
        CHECK.throwing("margin(0), no other relay", UNSUPPORTED, () -> gear.margin(0));
        CHECK.throwing("margin(1), no relay trips", STATE, () -> gear.margin(1));
        CHECK.throwing("margin(2)", NO_SUCH, () -> gear.margin(2));
    }
}
