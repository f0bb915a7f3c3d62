/** The boundary cases of "Restoration" and of promises 40 to 45: the empty plan, the full one, and each tie. */
public final class EdgePlansTest {
    private static final Class<UnsupportedOperationException> UNSUPPORTED = UnsupportedOperationException.class;
    private static final Class<IndexOutOfBoundsException> INDEX = IndexOutOfBoundsException.class;
    private static final Check CHECK = new Check("EdgePlansTest");

    public static void main(String[] args) {
        emptyPlanWithoutLines();
        emptyPlanWithoutLinesOfPlans();
        emptyPlanWhenNothingCanBeClosed();
        emptyPlanWhenNothingIsWorthIt();
        emptyPlanCountsWhatIsLive();
        fullPlan();
        greatestValue();
        valueByOne();
        fewestLinesOfSeveral();
        lowerNumberWhereTheyFirstDiffer();
        upToTheCapacity();
        upToTheRating();
        inTheOrderOfTheirNumbers();
        linesBetweenDarkIslands();
        noPlanOverAFault();
        noDisconnectorIsPlanned();
        nineLinesToTry();
        whichLinesAreCounted();
        twelveLinesToSearch();
        twelveLinesInOneMesh();
        restoreClosesThePlanAlone();
        CHECK.end();
    }

    /** Every way to ask, the first index and the last, and the first outside on both sides. */
    private static void best(Switchgear gear, int value, int... lines) {
        searched(gear, value, lines);
        CHECK.same("valueByTrying()", gear.valueByTrying(), value);
        CHECK.same("sizeByTrying()", gear.sizeByTrying(), lines.length);
    }

    private static void searched(Switchgear gear, int value, int... lines) {
        CHECK.same("bestValue()", gear.bestValue(), value);
        CHECK.same("bestSize()", gear.bestSize(), lines.length);
        for (int index = 0; index < lines.length; index++) {
            CHECK.same("bestAt(" + index + ")", gear.bestAt(index), lines[index]);
        }
        for (int index : new int[] {-1, lines.length, 12, Integer.MIN_VALUE, Integer.MAX_VALUE}) {
            CHECK.throwing("bestAt(" + index + ")", INDEX, () -> gear.bestAt(index));
        }
    }

    private static void empty(Switchgear gear, int value) {
        best(gear, value);
        CHECK.same("restore()", gear.restore(), 0);
        best(gear, value);
    }

    /** "The empty plan is a plan": of an empty network, of nodes without lines. */
    private static void emptyPlanWithoutLines() {
        empty(new Switchgear(), 0);
        empty(Net.sourceAndBuses(999), 0);
        empty(Net.sourceAndBuses(999, Net.times(9, 99)), 0);
        Switchgear bus = new Switchgear();
        bus.addBus(99, 9);
        empty(bus, 0);
    }

    /** All lines are closed, locked out, faulty, or switched by disconnectors. */
    private static void emptyPlanWithoutLinesOfPlans() {
        empty(Net.closed(Net.star(999, 5, 6), 0, 1), 11);
        Switchgear faulty = Net.star(999, 5, 6);
        faulty.fault(0);
        faulty.fault(1);
        empty(faulty, 0);
        Switchgear locked = Net.closed(Net.star(99, 5, 6), 0, 1);
        CHECK.same("fault(0)", locked.fault(0), -2);
        locked.repair(0);
        empty(locked, 0);
        locked.reset(1);
        best(locked, 6, 1);
        Switchgear disconnector = Net.sourceAndBuses(999, 0, 99);
        disconnector.addLine(0, 1, 999, false);
        disconnector.addLine(1, 2, 999, false);
        empty(disconnector, 0);
        CHECK.same("isClosed(0)", disconnector.isClosed(0), false);
    }

    /** Each line of plans has a reason: 'f' by a dark line, 'r', 's', 'l'. */
    private static void emptyPlanWhenNothingCanBeClosed() {
        Switchgear tooMuch = Net.star(98, 99);
        empty(tooMuch, 0);
        Switchgear tooWeak = Net.sourceAndBuses(99, 99);
        tooWeak.addLine(0, 1, 98, true);
        empty(tooWeak, 0);
        Switchgear ring = Net.closed(Net.star(99, 99), 0);
        ring.addLine(0, 1, 999, true);
        empty(ring, 99);
        Switchgear faulty = Net.closed(Net.chain(99, 5, 6), 1);
        faulty.fault(1);
        empty(faulty, 0);
        Switchgear withoutSource = new Switchgear();
        withoutSource.addBus(5, 9);
        withoutSource.addBus(6, 9);
        withoutSource.addLine(0, 1, 999, true);
        empty(withoutSource, 0);
        CHECK.same("isClosed(0)", withoutSource.isClosed(0), false);
    }

    /** A load of 0 and a priority of 0 are worth nothing, so that the plan of fewest lines is the empty one. */
    private static void emptyPlanWhenNothingIsWorthIt() {
        Switchgear gear = new Switchgear();
        gear.addSource(999);
        gear.addBus(0, 9);
        gear.addBus(99, 0);
        gear.addBus(0, 0);
        for (int line = 0; line < 3; line++) {
            gear.addLine(0, line + 1, 999, true);
        }
        empty(gear, 0);
        gear.setLoad(1, 1);
        best(gear, 9, 0);
    }

    /** "the sum of the weights of all buses that are live after it", which can be live before it. */
    private static void emptyPlanCountsWhatIsLive() {
        Switchgear gear = new Switchgear();
        gear.addSource(100);
        gear.addBus(99, 9);
        gear.addBus(2, 1);
        gear.addLine(0, 1, 999, true);
        gear.addLine(0, 2, 999, true);
        Net.closed(gear, 0);
        empty(gear, 891);
        gear.setLoad(2, 1);
        best(gear, 892, 1);
    }

    /** Nine lines, the tenth index outside; no plan can have more, for no network has more than ten nodes. */
    private static void fullPlan() {
        Switchgear gear = new Switchgear();
        gear.addSource(891);
        for (int bus = 0; bus < 9; bus++) {
            gear.addBus(99, 9);
        }
        for (int line = 0; line < 9; line++) {
            gear.addLine(line + 1, line, 999, true);
        }
        best(gear, 8019, Net.upTo(9));
        CHECK.same("restore()", gear.restore(), 9);
        empty(gear, 8019);
        CHECK.same("darkLoad()", gear.darkLoad(), 0);
        CHECK.same("current(0)", gear.current(0), 891);
    }

    /** "The best plan is the one with the greatest value", however many lines it has. */
    private static void greatestValue() {
        Switchgear gear = Net.star(9, 9, 1, 1, 1, 1, 1, 1, 1, 1);
        best(gear, 9, 0);
        gear.setLoad(1, 8);
        best(gear, 9, 0, 1);
        gear.setLoad(1, 1);
        best(gear, 9, Net.upTo(9));
    }

    /** A value that is greater by one is better, with more lines and with greater numbers. */
    private static void valueByOne() {
        Switchgear more = Net.star(10, 8, 5, 4);
        best(more, 9, 1, 2);
        Switchgear later = Net.star(10, 8, 9);
        best(later, 9, 1);
        Switchgear earlier = Net.star(10, 9, 8);
        best(earlier, 9, 0);
    }

    /** "of several, the one with the fewest lines": one line against two, with the greater number. */
    private static void fewestLinesOfSeveral() {
        Switchgear gear = Net.star(10, 5, 5, 10);
        best(gear, 10, 2);
        Switchgear apart = Net.star(10, 1, 1, 8, 2, 8);
        best(apart, 10, 2, 3);
        Switchgear through = Net.sourceAndBuses(10, 0, 10);
        through.addLine(0, 1, 999, true);
        through.addLine(1, 2, 999, true);
        best(through, 10, 0, 1);
        through.addLine(0, 2, 999, true);
        best(through, 10, 2);
    }

    /** "the one that has the line with the lower number where the lines ... first differ": at each place. */
    private static void lowerNumberWhereTheyFirstDiffer() {
        best(Net.star(10, 10, 10, 10), 10, 0);
        best(Net.star(10, 5, 5, 5, 5), 10, 0, 1);
        best(Net.star(10, 4, 5, 5, 5), 10, 1, 2);
        best(Net.star(10, 6, 3, 7, 4), 10, 0, 3);
        best(Net.star(10, 6, 3, 7, 2, 4), 10, 0, 4);
        best(Net.star(10, 7, 4, 6, 3), 10, 0, 3);
        best(Net.star(12, 6, 1, 1, 3, 2, 5, 6), 12, 0, 6);
        best(Net.star(12, 6, 3, 4, 2, 3, 1), 12, 0, 1, 4);
        Switchgear gear = Net.sourceAndBuses(99, 9);
        for (int line = 0; line < 9; line++) {
            gear.addLine(0, 1, line < 8 ? 8 : 9, true);
        }
        best(gear, 9, 8);
        gear.setLoad(1, 8);
        best(gear, 8, 0);
    }

    /** A plan may take a source's whole capacity, and not one more. */
    private static void upToTheCapacity() {
        best(Net.star(198, 99, 99), 198, 0, 1);
        best(Net.star(197, 99, 99), 99, 0);
        best(Net.star(197, 98, 99), 197, 0, 1);
        Switchgear two = new Switchgear();
        two.addSource(1);
        two.addSource(1);
        two.addBus(1, 9);
        two.addBus(1, 1);
        two.addLine(0, 2, 1, true);
        two.addLine(0, 3, 1, true);
        two.addLine(1, 2, 1, true);
        best(two, 10, 1, 2);
    }

    /** A plan may take a line's whole rating, and not one more. */
    private static void upToTheRating() {
        Switchgear gear = Net.sourceAndBuses(999, 10, 5);
        gear.addLine(0, 1, 15, true);
        gear.addLine(1, 2, 5, true);
        best(gear, 15, 0, 1);
        gear.setLoad(2, 6);
        best(gear, 10, 0);
        gear.setLoad(2, 5);
        gear.setLoad(1, 11);
        best(gear, 11, 0);
        gear.setLoad(1, 16);
        best(gear, 0);
    }

    /** "in the order of their numbers": each step has to hold, not only what comes of all of them. */
    private static void inTheOrderOfTheirNumbers() {
        Switchgear gear = Net.sourceAndBuses(10, 10, 0);
        gear.addLine(1, 2, 999, true);
        gear.addLine(2, 0, 999, true);
        best(gear, 10, 0, 1);
        Switchgear turned = Net.sourceAndBuses(10, 10, 0);
        turned.addLine(2, 0, 999, true);
        turned.addLine(1, 2, 999, true);
        best(turned, 10, 0, 1);
        Switchgear sources = new Switchgear();
        sources.addSource(9);
        sources.addSource(20);
        sources.addBus(10, 1);
        sources.addBus(5, 1);
        sources.addLine(2, 3, 999, true);
        sources.addLine(0, 3, 999, true);
        sources.addLine(1, 2, 999, true);
        best(sources, 15, 0, 2);
    }

    /** Lines that join dark islands count as lines of the plan, and are left out if nothing becomes live by them. */
    private static void linesBetweenDarkIslands() {
        Switchgear gear = Net.sourceAndBuses(50, 1, 1, 1, 1);
        gear.addLine(3, 4, 999, true);
        gear.addLine(1, 2, 999, true);
        gear.addLine(0, 1, 999, true);
        best(gear, 2, 1, 2);
        gear.addLine(0, 2, 999, true);
        best(gear, 2, 1, 2);
        gear.fault(2);
        best(gear, 2, 1, 3);
        gear.repair(2);
        gear.fault(1);
        best(gear, 2, 2, 3);
    }

    /** No plan has a line with a fault, nor makes one live that is closed. */
    private static void noPlanOverAFault() {
        Switchgear gear = Net.closed(Net.chain(50, 1, 1, 1), 2);
        gear.fault(2);
        best(gear, 1, 0);
        CHECK.same("open(2)", gear.open(2), 'n');
        best(gear, 2, 0, 1);
        gear.repair(2);
        best(gear, 3, 0, 1, 2);
        gear.fault(0);
        best(gear, 0);
    }

    /** "and switched by a breaker": a disconnector that could be closed, and would be worth it, is left out. */
    private static void noDisconnectorIsPlanned() {
        Switchgear gear = Net.sourceAndBuses(99, 0, 10, 5);
        gear.addLine(0, 1, 999, false);
        gear.addLine(1, 2, 999, true);
        gear.addLine(0, 3, 999, true);
        CHECK.same("canClose(0)", gear.canClose(0), 'n');
        best(gear, 5, 2);
        Net.closed(gear, 0);
        best(gear, 15, 1, 2);
        Switchgear dark = Net.sourceAndBuses(99, 10, 5);
        dark.addLine(1, 2, 999, false);
        dark.addLine(0, 1, 999, true);
        CHECK.same("canClose(0) of two dark islands", dark.canClose(0), 'n');
        best(dark, 10, 1);
    }

    /** "if there are more than 9 lines of which plans can consist": nine, ten and twelve, whatever they are worth. */
    private static void nineLinesToTry() {
        Switchgear gear = Net.sourceAndBuses(99, 7);
        for (int line = 0; line < 12; line++) {
            if (line <= 9) {
                CHECK.same("valueByTrying() of " + line, gear.valueByTrying(), line == 0 ? 0 : 7);
                CHECK.same("sizeByTrying() of " + line, gear.sizeByTrying(), line == 0 ? 0 : 1);
            } else {
                tooManyToTry(gear);
            }
            gear.addLine(0, 1, 999, true);
        }
        tooManyToTry(gear);
        searched(gear, 7, 0);
        Switchgear worthless = new Switchgear();
        worthless.addBus(0, 0);
        worthless.addBus(0, 0);
        for (int line = 0; line < 10; line++) {
            worthless.addLine(0, 1, 1, true);
        }
        tooManyToTry(worthless);
        searched(worthless, 0);
    }

    private static void tooManyToTry(Switchgear gear) {
        CHECK.throwing("valueByTrying()", UNSUPPORTED, gear::valueByTrying);
        CHECK.throwing("sizeByTrying()", UNSUPPORTED, gear::sizeByTrying);
    }

    /** "those that are open, not locked out, without a fault, and switched by a breaker": the tenth of each kind. */
    private static void whichLinesAreCounted() {
        Switchgear gear = Net.sourceAndBuses(99, 7);
        for (int line = 0; line < 12; line++) {
            gear.addLine(0, 1, 999, line != 4 && line != 11);
        }
        tooManyToTry(gear);
        gear.fault(9);
        best(gear, 7, 0);
        gear.repair(9);
        tooManyToTry(gear);
        Net.closed(gear, 3);
        empty(gear, 7);
        gear.open(3);
        tooManyToTry(gear);
        gear.setRelay(3, 1, 1, 2);
        Net.closed(gear, 3);
        CHECK.same("fault(3)", gear.fault(3), 3);
        best(gear, 7, 0);
        gear.repair(3);
        best(gear, 7, 0);
        gear.reset(3);
        tooManyToTry(gear);
    }

    /** The search takes all twelve lines: in a star beside it three that are of no use. */
    private static void twelveLinesToSearch() {
        Switchgear gear = Net.star(45, 1, 2, 3, 4, 5, 6, 7, 8, 9);
        gear.addLine(1, 2, 999, true);
        gear.addLine(3, 4, 999, true);
        gear.addLine(8, 9, 999, true);
        tooManyToTry(gear);
        searched(gear, 45, Net.upTo(9));
        gear.setLoad(9, 10);
        searched(gear, 45, 1, 2, 3, 4, 5, 6, 7, 8);
        CHECK.same("restore()", gear.restore(), 8);
        CHECK.same("islandLoad(0)", gear.islandLoad(0), 45);
        CHECK.same("isLive(1)", gear.isLive(1), false);
        empty(gear, 45);
    }

    /** The last lines decide: the twelfth is needed, and the first ones are too weak. */
    private static void twelveLinesInOneMesh() {
        Switchgear gear = Net.sourceAndBuses(999, Net.times(9, 99));
        for (int bus = 1; bus <= 3; bus++) {
            gear.addLine(0, bus, 98, true);
        }
        for (int bus = 9; bus >= 1; bus--) {
            gear.addLine(bus, bus - 1, 999, true);
        }
        searched(gear, 891, 3, 4, 5, 6, 7, 8, 9, 10, 11);
        gear.fault(11);
        searched(gear, 0);
        gear.setLoad(1, 98);
        searched(gear, 98, 0);
        gear.setLoad(2, 0);
        searched(gear, 98, 0);
        gear.setLoad(3, 98);
        searched(gear, 196, 0, 2);
    }

    /** "Closes the lines of the best plan. Returns the number of lines that are closed": those, and no other. */
    private static void restoreClosesThePlanAlone() {
        Switchgear gear = Net.star(10, 4, 3, 5, 6, 1);
        gear.addLine(0, 1, 999, false);
        Net.closed(gear, 4);
        CHECK.same("bestSize()", gear.bestSize(), 2);
        CHECK.same("restore()", gear.restore(), 2);
        String closed = "";
        for (int line = 0; line < 6; line++) {
            closed += gear.isClosed(line) ? line : "";
        }
        CHECK.same("the closed lines", closed, "024");
        CHECK.same("islandLoad(0)", gear.islandLoad(0), 10);
        CHECK.same("trips()", gear.trips(), 0);
        empty(gear, 10);
    }
}
