/** The boundary cases of "Faults" and of promises 12 to 14, 31 to 33, 35 and 38. */
public final class EdgeFaultsTest {
    private static final Class<IllegalStateException> STATE = IllegalStateException.class;
    private static final Class<UnsupportedOperationException> UNSUPPORTED = UnsupportedOperationException.class;
    private static final Class<IndexOutOfBoundsException> INDEX = IndexOutOfBoundsException.class;
    private static final Check CHECK = new Check("EdgeFaultsTest");

    public static void main(String[] args) {
        distanceFrom1To9();
        pathFromTheSourceToTheLine();
        noPathInTheDarkOrOpen();
        faultCurrentRoundedDown();
        leastTripTimeTrips();
        ofSeveralTheFarthest();
        relaysBesideThePathSeeNothing();
        aRelayAtItsPickupDoesNotTrip();
        allClosedLinesAtTheSource();
        otherLinesStay();
        noRelayOnThePath();
        openOrDarkDrawsNothing();
        aFaultStaysUntilItIsRepaired();
        aSecondFault();
        repairOfNoFault();
        resetCounts();
        wouldTripChangesNothing();
        tripsCountsRelaysAlone();
        CHECK.end();
    }

    private static void state(Switchgear gear, int line, boolean closed, boolean locked, boolean faulty) {
        CHECK.same("isClosed(" + line + ")", gear.isClosed(line), closed);
        CHECK.same("isLocked(" + line + ")", gear.isLocked(line), locked);
        CHECK.same("hasFault(" + line + ")", gear.hasFault(line), faulty);
    }

    /** "the number of lines on the path ..., both this one and that next to the source included." */
    private static void distanceFrom1To9() {
        Switchgear gear = Net.closed(Net.chain(999, Net.times(9, 0)), Net.upTo(9));
        Switchgear star = Net.closed(Net.star(999, Net.times(9, 0)), Net.upTo(9));
        for (int line = 0; line < 9; line++) {
            CHECK.same("distance(" + line + ") in a row", gear.distance(line), line + 1);
            CHECK.same("distance(" + line + ") in a star", star.distance(line), 1);
            CHECK.same("faultCurrent(" + line + ") in a row", gear.faultCurrent(line), 9990 / (line + 1));
            CHECK.same("faultCurrent(" + line + ") in a star", star.faultCurrent(line), 9990);
        }
    }

    /** "the index, 0 for the line next to the source"; "Throws IndexOutOfBoundsException if there is no such index". */
    private static void pathFromTheSourceToTheLine() {
        Switchgear gear = new Switchgear();
        for (int bus = 0; bus < 9; bus++) {
            gear.addBus(0, 1);
        }
        gear.addSource(999);
        for (int line = 0; line < 9; line++) {
            gear.addLine(line, line + 1, 999, line % 2 == 0);
        }
        Net.closed(gear, Net.upTo(9));
        for (int line = 0; line < 9; line++) {
            int length = 9 - line;
            CHECK.same("distance(" + line + ")", gear.distance(line), length);
            for (int index = 0; index < length; index++) {
                CHECK.same("pathAt(" + line + ", " + index + ")", gear.pathAt(line, index), 8 - index);
            }
            int which = line;
            for (int index : new int[] {-1, length, length + 1, Integer.MIN_VALUE, Integer.MAX_VALUE}) {
                CHECK.throwing("pathAt(" + line + ", " + index + ")", INDEX, () -> gear.pathAt(which, index));
            }
        }
    }

    private static void noPath(Switchgear gear, int line) {
        CHECK.throwing("distance(" + line + ")", STATE, () -> gear.distance(line));
        CHECK.throwing("pathAt(" + line + ", 0)", STATE, () -> gear.pathAt(line, 0));
        CHECK.throwing("pathAt(" + line + ", -1)", STATE, () -> gear.pathAt(line, -1));
        CHECK.throwing("faultCurrent(" + line + ")", STATE, () -> gear.faultCurrent(line));
        CHECK.same("wouldTrip(" + line + ")", gear.wouldTrip(line), -1);
    }

    /** "Throws IllegalStateException if it is not a closed line of a live island." */
    private static void noPathInTheDarkOrOpen() {
        Switchgear gear = Net.chain(100, 0, 0);
        gear.addLine(0, 1, 999, true);
        noPath(gear, 0);
        noPath(gear, 1);
        Net.closed(gear, 1);
        noPath(gear, 1);
        Net.closed(gear, 0);
        CHECK.same("distance(1)", gear.distance(1), 2);
        noPath(gear, 2);
        gear.open(0);
        noPath(gear, 0);
        noPath(gear, 1);
        Net.closed(gear, 2);
        CHECK.same("pathAt(1, 0) by the other line", gear.pathAt(1, 0), 2);
        noPath(gear, 0);
    }

    /** "the capacity of the source times 10, divided by the distance and rounded down". */
    private static void faultCurrentRoundedDown() {
        int[][] dueAt = {
            {1, 10, 5, 3, 2, 2, 1, 1, 1, 1},
            {2, 20, 10, 6, 5, 4, 3, 2, 2, 2},
            {998, 9980, 4990, 3326, 2495, 1996, 1663, 1425, 1247, 1108},
            {999, 9990, 4995, 3330, 2497, 1998, 1665, 1427, 1248, 1110},
        };
        for (int[] due : dueAt) {
            Switchgear gear = Net.closed(Net.chain(due[0], Net.times(9, 0)), Net.upTo(9));
            for (int line = 0; line < 9; line++) {
                CHECK.same("faultCurrent(" + line + ") of " + due[0], gear.faultCurrent(line), due[line + 1]);
            }
        }
    }

    /** "The relay with the least trip time trips": by one unit, and by the step. */
    private static void leastTripTimeTrips() {
        for (int fastest = 0; fastest < 3; fastest++) {
            Switchgear gear = Net.closed(Net.chain(30, 0, 0, 0), 0, 1, 2);
            for (int line = 0; line < 3; line++) {
                gear.setRelay(line, line == fastest ? 50 : 53, 1, 0);
            }
            CHECK.same("wouldTrip(2)", gear.wouldTrip(2), fastest);
            CHECK.same("fault(2)", gear.fault(2), fastest);
            for (int line = 0; line < 3; line++) {
                state(gear, line, line != fastest, line == fastest, line == 2);
            }
        }
        Switchgear step = Net.closed(Net.chain(20, 0, 0), 0, 1);
        step.setRelay(0, 99, 10, 101);
        step.setRelay(1, 1, 1, 0);
        CHECK.same("wouldTrip(1), a step above the fault current", step.wouldTrip(1), 1);
        step.setRelay(0, 99, 10, 100);
        CHECK.same("wouldTrip(1), a step at the fault current", step.wouldTrip(1), 0);
        step.setRelay(1, 99, 10, 100);
        CHECK.same("wouldTrip(1), two steps", step.wouldTrip(1), 1);
    }

    /** "of several, the one that is the farthest from the source": not the one with the greatest number. */
    private static void ofSeveralTheFarthest() {
        Switchgear gear = new Switchgear();
        for (int bus = 0; bus < 9; bus++) {
            gear.addBus(0, 1);
        }
        gear.addSource(999);
        for (int line = 0; line < 9; line++) {
            gear.addLine(line, line + 1, 500, true);
        }
        Net.closed(gear, Net.upTo(9));
        for (int line = 0; line < 9; line++) {
            CHECK.same("wouldTrip(" + line + ")", gear.wouldTrip(line), line);
        }
        gear.setRelay(0, 999, 10, 0);
        gear.setRelay(1, 500, 2, 0);
        CHECK.same("wouldTrip(0), two slower ones", gear.wouldTrip(0), 2);
        CHECK.same("fault(0)", gear.fault(0), 2);
        state(gear, 2, false, true, false);
        state(gear, 1, true, false, false);
        state(gear, 0, true, false, true);
    }

    /** "Each relay on this path sees the fault current": no relay of another branch, nor one behind the fault. */
    private static void relaysBesideThePathSeeNothing() {
        Switchgear gear = Net.sourceAndBuses(100, 0, 0, 0, 0);
        gear.addLine(0, 1, 999, true);
        gear.addLine(0, 2, 999, true);
        gear.addLine(2, 3, 999, true);
        gear.addLine(2, 4, 999, true);
        Net.closed(gear, 0, 1, 2, 3);
        gear.setRelay(0, 1, 1, 2);
        gear.setRelay(2, 1, 1, 2);
        gear.setRelay(3, 400, 1, 0);
        gear.setRelay(1, 400, 10, 0);
        CHECK.same("wouldTrip(3)", gear.wouldTrip(3), 3);
        CHECK.same("wouldTrip(1)", gear.wouldTrip(1), 1);
        gear.setRelay(1, 999, 10, 0);
        CHECK.same("wouldTrip(1), though others could", gear.wouldTrip(1), 1);
        gear.setRelay(3, 500, 1, 0);
        CHECK.same("wouldTrip(3), none on its path", gear.wouldTrip(3), -2);
    }

    /** A fault current of the pickup lets no relay trip; one more does. */
    private static void aRelayAtItsPickupDoesNotTrip() {
        Switchgear gear = Net.closed(Net.chain(10, 0, 0, 0), 0, 1, 2);
        gear.setRelay(0, 33, 1, 0);
        gear.setRelay(1, 33, 1, 34);
        gear.setRelay(2, 33, 1, 0);
        CHECK.same("faultCurrent(2)", gear.faultCurrent(2), 33);
        CHECK.same("wouldTrip(2)", gear.wouldTrip(2), -2);
        gear.setRelay(0, 32, 10, 0);
        CHECK.same("wouldTrip(2), the first one above it", gear.wouldTrip(2), 0);
        gear.setRelay(2, 32, 10, 0);
        CHECK.same("wouldTrip(2), the last one above it", gear.wouldTrip(2), 2);
    }

    /** "If no relay on the path trips, all closed lines that end at the source are opened and locked out." */
    private static void allClosedLinesAtTheSource() {
        for (int source = 0; source < 10; source += 9) {
            Switchgear gear = new Switchgear();
            for (int node = 0; node < 10; node++) {
                if (node == source) {
                    gear.addSource(1);
                } else {
                    gear.addBus(0, 1);
                }
            }
            for (int node = 0; node < 10; node++) {
                if (node != source) {
                    gear.addLine(node % 2 == 0 ? node : source, node % 2 == 0 ? source : node, 10, node % 3 > 0);
                }
            }
            gear.addLine(source, 1, 10, true);
            Net.closed(gear, Net.upTo(9));
            CHECK.same("wouldTrip(8)", gear.wouldTrip(8), -2);
            CHECK.same("fault(8)", gear.fault(8), -2);
            for (int line = 0; line < 9; line++) {
                state(gear, line, false, true, line == 8);
            }
            state(gear, 9, false, false, false);
            CHECK.same("islands()", gear.islands(), 10);
            CHECK.same("trips()", gear.trips(), 0);
        }
    }

    /** Lines that are farther away, open, or at another source stay as they are. */
    private static void otherLinesStay() {
        Switchgear gear = new Switchgear();
        gear.addSource(1);
        gear.addSource(1);
        for (int bus = 2; bus < 6; bus++) {
            gear.addBus(0, 1);
        }
        gear.addLine(0, 2, 10, true);
        gear.addLine(2, 3, 10, true);
        gear.addLine(1, 4, 10, true);
        gear.addLine(4, 5, 10, true);
        gear.addLine(0, 3, 10, true);
        gear.addLine(0, 1, 10, true);
        Net.closed(gear, 0, 1, 2, 3);
        CHECK.same("fault(3)", gear.fault(3), -2);
        state(gear, 0, true, false, false);
        state(gear, 1, true, false, false);
        state(gear, 2, false, true, false);
        state(gear, 3, true, false, true);
        state(gear, 4, false, false, false);
        state(gear, 5, false, false, false);
        CHECK.same("isLive(4)", gear.isLive(4), false);
        CHECK.same("isLive(3)", gear.isLive(3), true);
        CHECK.same("fault(1)", gear.fault(1), -2);
        state(gear, 0, false, true, false);
        state(gear, 1, true, false, true);
    }

    /** Disconnectors have no relay, so that a path of them lets nothing trip. */
    private static void noRelayOnThePath() {
        Switchgear gear = Net.sourceAndBuses(999, 0, 0);
        gear.addLine(0, 1, 1, false);
        gear.addLine(1, 2, 1, false);
        Net.closed(gear, 0, 1);
        CHECK.same("wouldTrip(0)", gear.wouldTrip(0), -2);
        CHECK.same("wouldTrip(1)", gear.wouldTrip(1), -2);
        CHECK.same("fault(1)", gear.fault(1), -2);
        state(gear, 0, false, true, false);
        state(gear, 1, true, false, true);
        CHECK.same("trips()", gear.trips(), 0);
    }

    /** "A fault on an open line, or on a line of a dark island, draws no current, and nothing trips." */
    private static void openOrDarkDrawsNothing() {
        Switchgear gear = Net.chain(100, 0, 0);
        Net.closed(gear, 1);
        CHECK.same("fault(0), open at the source", gear.fault(0), -1);
        CHECK.same("fault(1), closed in the dark", gear.fault(1), -1);
        state(gear, 0, false, false, true);
        state(gear, 1, true, false, true);
        CHECK.same("trips()", gear.trips(), 0);
        Switchgear ring = Net.closed(Net.star(100, 0), 0);
        ring.addLine(0, 1, 999, true);
        CHECK.same("fault(1), open within a live island", ring.fault(1), -1);
        state(ring, 0, true, false, false);
        state(ring, 1, false, false, true);
    }

    /** "A fault stays until it is repaired": opening, tripping and resetting others does not end it. */
    private static void aFaultStaysUntilItIsRepaired() {
        Switchgear gear = Net.closed(Net.chain(100, 0, 0), 0, 1);
        gear.setRelay(0, 1, 1, 2);
        CHECK.same("fault(1)", gear.fault(1), 0);
        CHECK.same("reset(0)", gear.reset(0), 0);
        CHECK.same("open(1)", gear.open(1), 'n');
        state(gear, 1, false, false, true);
        CHECK.same("close(1)", gear.close(1), 'f');
        CHECK.same("close(0)", gear.close(0), 'n');
        CHECK.same("close(1) again", gear.close(1), 'f');
        CHECK.same("repair(1)", gear.repair(1), false);
        state(gear, 1, false, false, false);
        CHECK.same("close(1) after the repair", gear.close(1), 'n');
    }

    /** "Throws IllegalStateException if it has a fault": an open, a closed and a locked line. */
    private static void aSecondFault() {
        Switchgear gear = Net.chain(100, 0, 0, 0);
        gear.setRelay(0, 1, 1, 2);
        Net.closed(gear, 0, 2);
        CHECK.same("fault(0)", gear.fault(0), 0);
        CHECK.same("fault(1)", gear.fault(1), -1);
        CHECK.same("fault(2)", gear.fault(2), -1);
        for (int line = 0; line < 3; line++) {
            int which = line;
            CHECK.throwing("fault(" + line + ") again", STATE, () -> gear.fault(which));
        }
        CHECK.same("trips()", gear.trips(), 1);
        gear.repair(0);
        CHECK.same("fault(0) after the repair", gear.fault(0), -1);
        CHECK.same("trips() after it", gear.trips(), 1);
    }

    /** "Throws IllegalStateException if it has no fault": an open, a closed and a locked line. */
    private static void repairOfNoFault() {
        Switchgear gear = Net.chain(100, 0, 0);
        gear.setRelay(0, 1, 1, 2);
        Net.closed(gear, 0);
        CHECK.throwing("repair(0), closed", STATE, () -> gear.repair(0));
        CHECK.throwing("repair(1), open", STATE, () -> gear.repair(1));
        Net.closed(gear, 1);
        CHECK.same("fault(1)", gear.fault(1), 0);
        CHECK.throwing("repair(0), locked out", STATE, () -> gear.repair(0));
        CHECK.same("repair(1), not locked out", gear.repair(1), false);
        CHECK.throwing("repair(1) again", STATE, () -> gear.repair(1));
        CHECK.same("fault(0), locked out", gear.fault(0), -1);
        CHECK.same("repair(0), locked out", gear.repair(0), true);
        state(gear, 0, false, true, false);
    }

    /** "Returns the number of lines that are locked out after the call": from the twelfth to none. */
    private static void resetCounts() {
        Switchgear gear = Net.sourceAndBuses(100, 0);
        for (int line = 0; line < 12; line++) {
            gear.addLine(0, 1, 999, true);
            Net.closed(gear, line);
            CHECK.same("fault(" + line + ")", gear.fault(line), line);
        }
        for (int line = 11; line >= 0; line--) {
            int which = line;
            CHECK.throwing("reset(" + line + ") with its fault", UNSUPPORTED, () -> gear.reset(which));
            CHECK.same("repair(" + line + ")", gear.repair(line), true);
            CHECK.same("isLocked(" + line + ")", gear.isLocked(line), true);
            CHECK.same("reset(" + line + ")", gear.reset(line), line);
            CHECK.throwing("reset(" + line + ") again", STATE, () -> gear.reset(which));
        }
        gear.fault(3);
        CHECK.throwing("reset(3), not locked out, with a fault", UNSUPPORTED, () -> gear.reset(3));
        CHECK.same("canClose(11)", gear.canClose(11), 'n');
    }

    /** "what fault would return if a fault came to a line, with a fault or without one": each of the three answers. */
    private static void wouldTripChangesNothing() {
        Switchgear gear = Net.closed(Net.chain(10, 0, 0, 0), 0, 1);
        gear.setRelay(0, 99, 1, 0);
        CHECK.same("wouldTrip(0)", gear.wouldTrip(0), 0);
        CHECK.same("wouldTrip(1)", gear.wouldTrip(1), -2);
        CHECK.same("wouldTrip(2)", gear.wouldTrip(2), -1);
        for (int line = 0; line < 3; line++) {
            state(gear, line, line < 2, false, false);
        }
        CHECK.same("trips()", gear.trips(), 0);
        CHECK.same("fault(2)", gear.fault(2), -1);
        CHECK.same("wouldTrip(2) with a fault", gear.wouldTrip(2), -1);
        CHECK.same("fault(1)", gear.fault(1), -2);
        CHECK.same("wouldTrip(1) with a fault", gear.wouldTrip(1), -1);
        CHECK.same("wouldTrip(0), locked out", gear.wouldTrip(0), -1);
    }

    /** "Returns how often a relay has tripped": neither -1 nor -2 counts, and no lockout but by a relay. */
    private static void tripsCountsRelaysAlone() {
        Switchgear gear = Net.closed(Net.star(10, 0, 0, 0), 0, 1);
        CHECK.same("trips() at first", gear.trips(), 0);
        gear.fault(2);
        CHECK.same("trips() after -1", gear.trips(), 0);
        CHECK.same("fault(0)", gear.fault(0), -2);
        CHECK.same("trips() after -2", gear.trips(), 0);
        gear.repair(0);
        gear.reset(0);
        gear.setRelay(0, 99, 1, 0);
        Net.closed(gear, 0);
        CHECK.same("fault(0) at the relay", gear.fault(0), 0);
        CHECK.same("trips() after a relay", gear.trips(), 1);
        gear.repair(0);
        gear.reset(0);
        CHECK.same("trips() after the reset", gear.trips(), 1);
        gear.reset(1);
        gear.setRelay(1, 99, 1, 0);
        Net.closed(gear, 1);
        gear.fault(1);
        CHECK.same("trips() after another relay", gear.trips(), 2);
    }
}
