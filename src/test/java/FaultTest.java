import java.util.NoSuchElementException;

/** Promises 12 to 14 and 31 to 38: paths, relays, faults, lockouts and selectivity. */
public final class FaultTest {
    private static final Class<IllegalStateException> STATE = IllegalStateException.class;
    private static final Class<UnsupportedOperationException> UNSUPPORTED = UnsupportedOperationException.class;
    private static final Check CHECK = new Check("FaultTest");

    public static void main(String[] args) {
        noSuch();
        tripTimes();
        paths();
        farthestOfSeveral();
        upstreamTrips();
        nothingTrips();
        noCurrentDrawn();
        repairAndReset();
        margins();
        CHECK.end();
    }

    /** Source 0 with its capacity, then buses in a row; line i leads from node i to i + 1. */
    private static Switchgear chain(int capacity, int buses, boolean... breakers) {
        Switchgear gear = new Switchgear();
        gear.addSource(capacity);
        for (int bus = 0; bus < buses; bus++) {
            gear.addBus(0, 1);
        }
        for (int line = 0; line < breakers.length; line++) {
            gear.addLine(line, line + 1, 50, breakers[line]);
            gear.close(line);
        }
        return gear;
    }

    private static void noSuch() {
        Switchgear gear = chain(100, 1, true);
        for (int line : new int[] {-1, 1, Integer.MIN_VALUE, Integer.MAX_VALUE}) {
            CHECK.throwing("fault", NoSuchElementException.class, () -> gear.fault(line));
            CHECK.throwing("repair", NoSuchElementException.class, () -> gear.repair(line));
            CHECK.throwing("reset", NoSuchElementException.class, () -> gear.reset(line));
            CHECK.throwing("distance", NoSuchElementException.class, () -> gear.distance(line));
            CHECK.throwing("pathAt", NoSuchElementException.class, () -> gear.pathAt(line, -1));
            CHECK.throwing("faultCurrent", NoSuchElementException.class, () -> gear.faultCurrent(line));
            CHECK.throwing("tripTime", NoSuchElementException.class, () -> gear.tripTime(line, 0));
            CHECK.throwing("wouldTrip", NoSuchElementException.class, () -> gear.wouldTrip(line));
            CHECK.throwing("isSelective", NoSuchElementException.class, () -> gear.isSelective(line));
            CHECK.throwing("margin", NoSuchElementException.class, () -> gear.margin(line));
        }
    }

    private static void tripTimes() {
        Switchgear gear = chain(100, 2, true, false);
        gear.setRelay(0, 30, 7, 100);
        CHECK.same("at the pickup", gear.tripTime(0, 30), -1);
        CHECK.same("below the pickup", gear.tripTime(0, 1), -1);
        CHECK.same("above the pickup", gear.tripTime(0, 31), 2102);
        CHECK.same("rounded down", gear.tripTime(0, 41), 190 + 2);
        CHECK.same("below the step", gear.tripTime(0, 99), 30 + 2);
        CHECK.same("at the step", gear.tripTime(0, 100), 1);
        CHECK.same("the greatest current", gear.tripTime(0, 99999), 1);
        gear.setRelay(0, 999, 10, 0);
        CHECK.same("the longest time", gear.tripTime(0, 1000), 99902);
        CHECK.same("the greatest current without a step", gear.tripTime(0, 99999), 3);
        gear.setRelay(0, 1, 1, 0);
        CHECK.same("the shortest time without a step", gear.tripTime(0, 99999), 2);
        for (int current : new int[] {0, -1, 100000, Integer.MIN_VALUE, Integer.MAX_VALUE}) {
            CHECK.throwing("tripTime(0, " + current + ")", IllegalArgumentException.class,
                () -> gear.tripTime(0, current));
            CHECK.throwing("tripTime(1, " + current + ")", IllegalArgumentException.class,
                () -> gear.tripTime(1, current));
        }
        CHECK.throwing("tripTime of a disconnector", UNSUPPORTED, () -> gear.tripTime(1, 5));
    }

    private static void paths() {
        Switchgear gear = new Switchgear();
        gear.addBus(0, 1);
        gear.addBus(0, 1);
        gear.addBus(0, 1);
        gear.addSource(100);
        gear.addBus(0, 1);
        gear.addLine(0, 1, 50, true);
        gear.addLine(0, 2, 50, true);
        gear.addLine(3, 0, 50, true);
        gear.addLine(4, 2, 50, true);
        CHECK.throwing("distance of an open line", STATE, () -> gear.distance(2));
        gear.close(3);
        CHECK.throwing("distance in the dark", STATE, () -> gear.distance(3));
        CHECK.throwing("pathAt in the dark", STATE, () -> gear.pathAt(3, 9));
        CHECK.throwing("faultCurrent in the dark", STATE, () -> gear.faultCurrent(3));
        gear.close(0);
        gear.close(1);
        gear.close(2);
        CHECK.same("distances", gear.distance(0) + " " + gear.distance(1) + " " + gear.distance(2) + " "
            + gear.distance(3), "2 2 1 3");
        CHECK.same("path to 3", gear.pathAt(3, 0) + " " + gear.pathAt(3, 1) + " " + gear.pathAt(3, 2), "2 1 3");
        CHECK.same("path to 0", gear.pathAt(0, 0) + " " + gear.pathAt(0, 1), "2 0");
        for (int index : new int[] {-1, 2, Integer.MIN_VALUE, Integer.MAX_VALUE}) {
            CHECK.throwing("pathAt(0, " + index + ")", IndexOutOfBoundsException.class, () -> gear.pathAt(0, index));
        }
        CHECK.same("fault currents", gear.faultCurrent(0) + " " + gear.faultCurrent(2) + " " + gear.faultCurrent(3),
            "500 1000 333");
        gear.open(1);
        CHECK.throwing("pathAt of an open line", STATE, () -> gear.pathAt(1, 0));
        CHECK.throwing("faultCurrent of an open line", STATE, () -> gear.faultCurrent(1));
        CHECK.throwing("distance beyond it", STATE, () -> gear.distance(3));
    }

    private static void farthestOfSeveral() {
        Switchgear gear = chain(100, 3, true, true, true);
        CHECK.same("wouldTrip", gear.wouldTrip(2), 2);
        CHECK.same("trips() after asking", gear.trips(), 0);
        CHECK.same("isSelective", gear.isSelective(2), true);
        CHECK.same("margin of the same relays", gear.margin(2), 0);
        CHECK.same("fault", gear.fault(2), 2);
        CHECK.same("trips()", gear.trips(), 1);
        state(gear, 2, false, true, true);
        state(gear, 1, true, false, false);
        CHECK.same("fault again next to the source", gear.fault(0), 0);
        state(gear, 0, false, true, true);
        state(gear, 1, true, false, false);
        CHECK.same("isLive(1)", gear.isLive(1), false);
        CHECK.same("trips() again", gear.trips(), 2);
    }

    private static void state(Switchgear gear, int line, boolean closed, boolean locked, boolean faulty) {
        CHECK.same("isClosed(" + line + ")", gear.isClosed(line), closed);
        CHECK.same("isLocked(" + line + ")", gear.isLocked(line), locked);
        CHECK.same("hasFault(" + line + ")", gear.hasFault(line), faulty);
    }

    private static void upstreamTrips() {
        Switchgear gear = chain(100, 3, true, true, false);
        gear.setRelay(0, 50, 1, 300);
        CHECK.same("wouldTrip", gear.wouldTrip(2), 0);
        CHECK.same("isSelective of a disconnector", gear.isSelective(2), false);
        CHECK.throwing("margin of a disconnector", STATE, () -> gear.margin(2));
        CHECK.same("isSelective of the slower", gear.isSelective(1), false);
        CHECK.throwing("margin of the slower", STATE, () -> gear.margin(1));
        CHECK.same("fault", gear.fault(2), 0);
        state(gear, 0, false, true, false);
        state(gear, 1, true, false, false);
        state(gear, 2, true, false, true);
        CHECK.same("wouldTrip with a fault", gear.wouldTrip(2), -1);
        CHECK.throwing("a second fault", STATE, () -> gear.fault(2));
        CHECK.same("reset", gear.reset(0), 0);
        CHECK.same("canClose before the repair", gear.canClose(0), 'f');
        CHECK.same("repair", gear.repair(2), false);
        CHECK.same("canClose after the repair", gear.canClose(0), 'n');
    }

    private static void nothingTrips() {
        Switchgear gear = new Switchgear();
        gear.addSource(1);
        gear.addBus(0, 1);
        gear.addBus(0, 1);
        gear.addBus(0, 1);
        gear.addSource(9);
        gear.addBus(0, 1);
        gear.addLine(0, 1, 10, true);
        gear.addLine(1, 2, 10, true);
        gear.addLine(3, 0, 10, true);
        gear.addLine(0, 3, 10, true);
        gear.addLine(4, 5, 10, true);
        gear.close(0);
        gear.close(1);
        gear.close(2);
        gear.close(4);
        CHECK.same("wouldTrip", gear.wouldTrip(1), -2);
        CHECK.same("isSelective", gear.isSelective(1), false);
        CHECK.throwing("margin", STATE, () -> gear.margin(1));
        CHECK.same("fault", gear.fault(1), -2);
        CHECK.same("trips()", gear.trips(), 0);
        state(gear, 0, false, true, false);
        state(gear, 1, true, false, true);
        state(gear, 2, false, true, false);
        state(gear, 3, false, false, false);
        state(gear, 4, true, false, false);
        CHECK.same("reset(0)", gear.reset(0), 1);
        CHECK.same("reset(2)", gear.reset(2), 0);
        CHECK.same("a current above the pickup", gear.wouldTrip(4), 4);
    }

    private static void noCurrentDrawn() {
        Switchgear gear = chain(100, 3, true, false, true);
        gear.open(0);
        CHECK.same("wouldTrip of an open line", gear.wouldTrip(0), -1);
        CHECK.same("fault of an open line", gear.fault(0), -1);
        CHECK.same("fault in the dark", gear.fault(2), -1);
        state(gear, 0, false, false, true);
        state(gear, 2, true, false, true);
        CHECK.same("trips()", gear.trips(), 0);
        CHECK.same("isSelective of an open line", gear.isSelective(0), false);
        CHECK.same("isSelective in the dark", gear.isSelective(2), false);
        CHECK.throwing("margin of an open line", STATE, () -> gear.margin(0));
    }

    private static void repairAndReset() {
        Switchgear gear = chain(100, 2, true, true);
        CHECK.throwing("repair without a fault", STATE, () -> gear.repair(0));
        CHECK.throwing("reset without a lockout", STATE, () -> gear.reset(0));
        gear.fault(1);
        gear.fault(0);
        CHECK.throwing("reset with a fault", UNSUPPORTED, () -> gear.reset(0));
        CHECK.same("repair of a locked line", gear.repair(0), true);
        CHECK.throwing("a second repair", STATE, () -> gear.repair(0));
        state(gear, 0, false, true, false);
        CHECK.same("reset, one still locked", gear.reset(0), 1);
        state(gear, 0, false, false, false);
        CHECK.throwing("a second reset", STATE, () -> gear.reset(0));
        gear.fault(0);
        CHECK.throwing("reset with a fault, not locked", UNSUPPORTED, () -> gear.reset(0));
        CHECK.same("repair of a line that is not locked", gear.repair(0), false);
        CHECK.same("repair(1)", gear.repair(1), true);
        CHECK.same("reset(1)", gear.reset(1), 0);
    }

    private static void margins() {
        Switchgear gear = chain(100, 3, true, true, true);
        gear.setRelay(0, 100, 9, 0);
        gear.setRelay(1, 100, 5, 0);
        gear.setRelay(2, 100, 1, 0);
        CHECK.same("faultCurrent", gear.faultCurrent(2), 333);
        CHECK.same("margin to the next", gear.margin(2), (5000 / 233 + 2) - (1000 / 233 + 2));
        CHECK.same("margin on a shorter path", gear.margin(1), (9000 / 400 + 2) - (5000 / 400 + 2));
        CHECK.throwing("margin without another relay", UNSUPPORTED, () -> gear.margin(0));
        gear.setRelay(1, 400, 5, 0);
        CHECK.same("margin, one does not trip", gear.margin(2), (9000 / 233 + 2) - (1000 / 233 + 2));
        gear.setRelay(0, 333, 9, 0);
        CHECK.throwing("margin, no other trips", UNSUPPORTED, () -> gear.margin(2));
        gear.setRelay(2, 100, 1, 333);
        gear.setRelay(0, 332, 1, 0);
        CHECK.same("margin of a step", gear.margin(2), 3322 - 1);
        gear.setRelay(0, 332, 1, 333);
        CHECK.same("margin of two steps", gear.margin(2), 0);
        gear.setRelay(2, 333, 1, 0);
        CHECK.throwing("margin of a relay that does not trip", STATE, () -> gear.margin(2));
    }
}
