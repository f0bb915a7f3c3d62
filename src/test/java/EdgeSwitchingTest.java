/** The boundary cases of "Switching" and of promises 7 to 11: each reason, just inside and just outside. */
public final class EdgeSwitchingTest {
    private static final Class<IllegalStateException> STATE = IllegalStateException.class;
    private static final Check CHECK = new Check("EdgeSwitchingTest");

    public static void main(String[] args) {
        itIsOpen();
        itIsNotLockedOut();
        itHasNoFault();
        noLineThatBecomesLiveHasAFault();
        faultsThatDoNotCount();
        notTheSameIsland();
        notTwoLiveIslands();
        disconnectorAndDarkLoad();
        disconnectorBetweenDarkIslands();
        loadUpToTheCapacity();
        currentUpToTheRating();
        ratingsOfDarkIslandsDoNotCount();
        lowestOverloadedLine();
        notOverloadedForEachOtherReason();
        openingAnOpenLine();
        openingUnderCurrent();
        reasonsByTheirOrder();
        ownFaultBeforeTheOthers();
        lockoutBeforeTheOthers();
        CHECK.end();
    }

    /** What is told is what is done, and overloaded refuses all reasons but one. */
    private static void closing(Switchgear gear, int line, char due) {
        boolean before = gear.isClosed(line);
        CHECK.same("canClose(" + line + ")", gear.canClose(line), due);
        if (due != 'l') {
            CHECK.throwing("overloaded(" + line + ")", STATE, () -> gear.overloaded(line));
        }
        CHECK.same("close(" + line + ")", gear.close(line), due);
        CHECK.same("isClosed(" + line + ")", gear.isClosed(line), due == 'n' || before);
    }

    private static void opening(Switchgear gear, int line, char due) {
        boolean before = gear.isClosed(line);
        CHECK.same("canOpen(" + line + ")", gear.canOpen(line), due);
        CHECK.same("open(" + line + ")", gear.open(line), due);
        CHECK.same("isClosed(" + line + ")", gear.isClosed(line), due != 'n' && before);
    }

    /** A fault locks the line out and is repaired. */
    private static Switchgear locked(Switchgear gear, int line) {
        Net.closed(gear, line);
        gear.fault(line);
        gear.repair(line);
        if (!gear.isLocked(line)) {
            throw new AssertionError("line " + line + " is to be locked out");
        }
        return gear;
    }

    /** "'c', it is open". */
    private static void itIsOpen() {
        Switchgear gear = Net.chain(50, 1, 1);
        closing(gear, 1, 'n');
        closing(gear, 1, 'c');
        closing(gear, 0, 'n');
        closing(gear, 0, 'c');
        closing(gear, 1, 'c');
        opening(gear, 1, 'n');
        closing(gear, 1, 'n');
    }

    /** "'o', it is not locked out": until the reset, not until the repair. */
    private static void itIsNotLockedOut() {
        Switchgear gear = Net.star(100, 1);
        closing(gear, 0, 'n');
        CHECK.same("fault(0)", gear.fault(0), 0);
        closing(gear, 0, 'o');
        gear.repair(0);
        closing(gear, 0, 'o');
        gear.reset(0);
        closing(gear, 0, 'n');
    }

    /** "'f', it has no fault": in a live, in a dark and between two dark islands. */
    private static void itHasNoFault() {
        Switchgear gear = Net.chain(50, 1, 1);
        gear.fault(0);
        gear.fault(1);
        closing(gear, 0, 'f');
        closing(gear, 1, 'f');
        gear.repair(1);
        closing(gear, 1, 'n');
        closing(gear, 0, 'f');
        gear.repair(0);
        closing(gear, 0, 'n');
    }

    /** "and no closed line of a dark island that would become live by it has one": the nearest and the farthest. */
    private static void noLineThatBecomesLiveHasAFault() {
        for (int faulty = 1; faulty <= 8; faulty++) {
            Switchgear gear = Net.chain(999, Net.times(9, 1));
            for (int line = 1; line <= 8; line++) {
                Net.closed(gear, line);
            }
            CHECK.same("fault(" + faulty + ")", gear.fault(faulty), -1);
            closing(gear, 0, 'f');
            gear.repair(faulty);
            closing(gear, 0, 'n');
        }
        Switchgear turned = Net.sourceAndBuses(999, 1, 1);
        turned.addLine(1, 0, 999, true);
        turned.addLine(2, 1, 999, false);
        Net.closed(turned, 1);
        turned.fault(1);
        closing(turned, 0, 'f');
    }

    /** A fault on an open line, and one in a dark island that stays dark, keep no other line from closing. */
    private static void faultsThatDoNotCount() {
        Switchgear gear = Net.chain(999, 1, 1, 1, 1);
        gear.addLine(2, 4, 999, true);
        Net.closed(gear, 3);
        gear.fault(1);
        gear.fault(3);
        closing(gear, 0, 'n');
        closing(gear, 2, 'n');
        closing(gear, 4, 'r');
        opening(gear, 0, 'n');
        closing(gear, 0, 'n');
        gear.repair(1);
        closing(gear, 1, 'f');
        opening(gear, 3, 'n');
        closing(gear, 1, 'n');
        closing(gear, 3, 'f');
        closing(gear, 4, 'n');
        closing(gear, 3, 'f');
        gear.repair(3);
        closing(gear, 3, 'r');
    }

    /** "'r', it would not connect two nodes of the same island": beside one line, and around nine. */
    private static void notTheSameIsland() {
        Switchgear dark = new Switchgear();
        for (int node = 0; node < 10; node++) {
            dark.addBus(0, 1);
        }
        for (int line = 0; line < 10; line++) {
            dark.addLine(line, (line + 1) % 10, 999, true);
        }
        Net.closed(dark, Net.upTo(9));
        closing(dark, 9, 'r');
        opening(dark, 0, 'n');
        closing(dark, 9, 'n');
        closing(dark, 0, 'r');
        Switchgear live = Net.chain(999, Net.times(9, 1));
        live.addLine(9, 0, 999, true);
        live.addLine(9, 0, 999, false);
        Net.closed(live, Net.upTo(9));
        closing(live, 9, 'r');
        closing(live, 10, 'r');
        opening(live, 8, 'n');
        closing(live, 9, 'n');
        closing(live, 10, 'r');
        closing(live, 8, 'r');
    }

    /** "or two live islands": two sources side by side, and at the ends of a row. */
    private static void notTwoLiveIslands() {
        Switchgear gear = new Switchgear();
        gear.addSource(1);
        gear.addSource(999);
        gear.addBus(0, 1);
        gear.addBus(0, 1);
        gear.addLine(0, 1, 999, true);
        gear.addLine(0, 1, 999, false);
        gear.addLine(0, 2, 999, true);
        gear.addLine(2, 3, 999, true);
        gear.addLine(3, 1, 999, true);
        closing(gear, 0, 'r');
        closing(gear, 1, 'r');
        closing(gear, 2, 'n');
        closing(gear, 4, 'n');
        closing(gear, 3, 'r');
        opening(gear, 4, 'n');
        closing(gear, 3, 'n');
        closing(gear, 4, 'r');
    }

    /** "'d', ... it would not connect a live island with a dark one that has a load greater than 0". */
    private static void disconnectorAndDarkLoad() {
        for (boolean fromSource : new boolean[] {true, false}) {
            Switchgear gear = Net.sourceAndBuses(999, 0, 0, 5);
            gear.addLine(fromSource ? 0 : 1, fromSource ? 1 : 0, 999, false);
            gear.addLine(1, 2, 999, true);
            gear.addLine(0, 3, 999, true);
            Net.closed(gear, 1, 2);
            gear.setLoad(2, 1);
            closing(gear, 0, 'd');
            gear.setLoad(2, 0);
            gear.setLoad(1, 1);
            closing(gear, 0, 'd');
            gear.setLoad(1, 0);
            closing(gear, 0, 'n');
            opening(gear, 0, 'n');
            opening(gear, 1, 'n');
            gear.setLoad(2, 99);
            closing(gear, 0, 'n');
        }
        Switchgear breaker = Net.star(999, 99);
        closing(breaker, 0, 'n');
    }

    /** A disconnector may connect two dark islands, whatever their load. */
    private static void disconnectorBetweenDarkIslands() {
        Switchgear gear = Net.sourceAndBuses(1, 99, 99, 99);
        gear.addLine(1, 2, 1, false);
        gear.addLine(2, 3, 1, false);
        closing(gear, 0, 'n');
        closing(gear, 1, 'n');
        CHECK.same("islandLoad(3)", gear.islandLoad(3), 297);
        opening(gear, 0, 'n');
        opening(gear, 1, 'n');
    }

    /** "'s', the load of the live island ... is not greater than the capacity of its source". */
    private static void loadUpToTheCapacity() {
        for (int capacity : new int[] {1, 2, 100, 198}) {
            Switchgear gear = Net.star(capacity, capacity / 2, capacity - capacity / 2, 1, 0);
            closing(gear, 0, 'n');
            closing(gear, 1, 'n');
            closing(gear, 2, 's');
            closing(gear, 3, 'n');
            gear.setLoad(3, 0);
            closing(gear, 2, 'n');
        }
        Switchgear full = Net.chain(891, Net.times(9, 99));
        for (int line = 8; line >= 0; line--) {
            closing(full, line, 'n');
        }
        Switchgear less = Net.chain(890, Net.times(9, 99));
        for (int line = 8; line >= 1; line--) {
            closing(less, line, 'n');
        }
        closing(less, 0, 's');
        less.setLoad(9, 98);
        closing(less, 0, 'n');
        Switchgear late = Net.sourceAndBuses(5, 5, 1);
        late.addLine(2, 1, 999, true);
        late.addLine(1, 0, 999, true);
        closing(late, 1, 'n');
        closing(late, 0, 's');
    }

    /** "'l', no line would have a current greater than its rating then": the new line, those before and behind it. */
    private static void currentUpToTheRating() {
        for (int weak = 0; weak < 5; weak++) {
            Switchgear gear = Net.sourceAndBuses(999, 1, 1, 1, 1, 1);
            for (int line = 0; line < 5; line++) {
                gear.addLine(line, line + 1, line == weak ? 5 - line + 10 : 999, true);
            }
            Net.closed(gear, 0, 1, 3, 4);
            gear.setLoad(5, 12);
            closing(gear, 2, 'l');
            CHECK.same("overloaded(2) by " + weak, gear.overloaded(2), weak);
            gear.setLoad(5, 11);
            closing(gear, 2, 'n');
            CHECK.same("current(" + weak + ")", gear.current(weak), 15 - weak);
        }
    }

    /** Two dark islands can be joined by and with lines that would be far too weak when live. */
    private static void ratingsOfDarkIslandsDoNotCount() {
        Switchgear gear = Net.sourceAndBuses(999, 99, 99, 99);
        gear.addLine(1, 2, 1, true);
        gear.addLine(2, 3, 1, true);
        gear.addLine(0, 2, 999, true);
        closing(gear, 0, 'n');
        closing(gear, 1, 'n');
        closing(gear, 2, 'l');
        CHECK.same("overloaded(2)", gear.overloaded(2), 0);
        opening(gear, 0, 'n');
        CHECK.same("overloaded(2) of the other", gear.overloaded(2), 1);
        opening(gear, 1, 'n');
        closing(gear, 2, 'n');
    }

    /** "Returns the line with the lowest number of those that would": of one, two and all of them. */
    private static void lowestOverloadedLine() {
        Switchgear gear = Net.sourceAndBuses(999, 1, 1, 1, 99);
        gear.addLine(3, 4, 999, true);
        gear.addLine(2, 3, 50, true);
        gear.addLine(1, 2, 50, true);
        gear.addLine(0, 1, 50, true);
        Net.closed(gear, 1, 2, 3);
        CHECK.same("overloaded(0), all but the new one", gear.overloaded(0), 1);
        Switchgear turned = Net.sourceAndBuses(999, 1, 1, 1, 99);
        turned.addLine(0, 1, 50, true);
        turned.addLine(1, 2, 50, true);
        turned.addLine(2, 3, 50, true);
        turned.addLine(3, 4, 50, true);
        Net.closed(turned, 0, 1, 2);
        CHECK.same("overloaded(3), all of them", turned.overloaded(3), 0);
        Switchgear last = Net.sourceAndBuses(999, 99);
        for (int line = 0; line < 12; line++) {
            last.addLine(0, 1, line < 11 ? 99 : 98, true);
        }
        CHECK.same("overloaded(11), itself", last.overloaded(11), 11);
        closing(last, 11, 'l');
        closing(last, 10, 'n');
    }

    /** "Throws IllegalStateException if it can be closed, or cannot with another reason": n, c, o, f, r, d, s. */
    private static void notOverloadedForEachOtherReason() {
        Switchgear gear = Net.sourceAndBuses(50, 10, 10, 10, 31);
        gear.addLine(0, 1, 999, true);
        gear.addLine(0, 2, 999, true);
        gear.addLine(0, 3, 999, true);
        gear.addLine(0, 1, 999, true);
        gear.addLine(0, 2, 999, false);
        gear.addLine(0, 4, 999, true);
        gear.addLine(0, 2, 9, true);
        locked(gear, 1);
        Net.closed(gear, 0);
        gear.fault(2);
        gear.setLoad(4, 41);
        String reasons = "";
        for (int line = 0; line < 7; line++) {
            int which = line;
            reasons += gear.canClose(line);
            if (line < 6) {
                CHECK.throwing("overloaded(" + line + ")", STATE, () -> gear.overloaded(which));
            }
        }
        CHECK.same("the reasons", reasons, "cofrdsl");
        CHECK.same("overloaded(6)", gear.overloaded(6), 6);
        gear.setLoad(2, 9);
        CHECK.throwing("overloaded(6) when it can be closed", STATE, () -> gear.overloaded(6));
        closing(gear, 6, 'n');
    }

    /** "A line can be opened if ...: 'c', it is closed". */
    private static void openingAnOpenLine() {
        Switchgear gear = Net.sourceAndBuses(50, 0);
        gear.addLine(0, 1, 999, true);
        gear.addLine(0, 1, 999, false);
        opening(gear, 0, 'c');
        opening(gear, 1, 'c');
        closing(gear, 0, 'n');
        opening(gear, 1, 'c');
        opening(gear, 0, 'n');
        opening(gear, 0, 'c');
        gear.fault(0);
        opening(gear, 0, 'c');
        Switchgear locked = locked(Net.star(50, 1), 0);
        opening(locked, 0, 'c');
    }

    /** "'d', it is switched by a breaker, or its current is 0". */
    private static void openingUnderCurrent() {
        Switchgear gear = Net.sourceAndBuses(99, 0, 0);
        gear.addLine(0, 1, 999, false);
        gear.addLine(1, 2, 999, false);
        Net.closed(gear, 0, 1);
        gear.setLoad(2, 1);
        opening(gear, 0, 'd');
        opening(gear, 1, 'd');
        gear.setLoad(2, 0);
        gear.setLoad(1, 1);
        opening(gear, 0, 'd');
        opening(gear, 1, 'n');
        gear.setLoad(1, 0);
        opening(gear, 0, 'n');

        Switchgear breaker = Net.closed(Net.star(99, 99), 0);
        opening(breaker, 0, 'n');

        Switchgear dark = Net.sourceAndBuses(99, 99, 99);
        dark.addLine(1, 2, 1, false);
        Net.closed(dark, 0);
        opening(dark, 0, 'n');
        Net.closed(dark, 0);
        dark.fault(0);
        opening(dark, 0, 'n');
    }

    /** "the first one that does not hold is the reason": neighbours in the order, both of which do not hold. */
    private static void reasonsByTheirOrder() {
        Switchgear faulty = Net.chain(50, 1, 1);
        Net.closed(faulty, 1);
        faulty.fault(1);
        closing(faulty, 1, 'c');

        Switchgear ring = Net.sourceAndBuses(50, 1);
        ring.addLine(0, 1, 999, true);
        ring.addLine(0, 1, 999, true);
        Net.closed(ring, 0);
        closing(ring, 1, 'r');
        ring.fault(1);
        closing(ring, 1, 'f');

        Switchgear sources = new Switchgear();
        sources.addSource(1);
        sources.addSource(1);
        sources.addBus(1, 1);
        sources.addBus(1, 1);
        sources.addLine(0, 2, 1, true);
        sources.addLine(1, 3, 1, true);
        sources.addLine(2, 3, 1, true);
        Net.closed(sources, 0, 1);
        closing(sources, 2, 'r');

        Switchgear weak = Net.sourceAndBuses(5, 6);
        weak.addLine(0, 1, 5, false);
        weak.addLine(0, 1, 5, true);
        weak.addLine(0, 1, 6, true);
        closing(weak, 0, 'd');
        closing(weak, 1, 's');
        closing(weak, 2, 's');
        Switchgear strong = Net.sourceAndBuses(6, 6);
        strong.addLine(0, 1, 5, false);
        strong.addLine(0, 1, 5, true);
        strong.addLine(0, 1, 6, true);
        closing(strong, 0, 'd');
        closing(strong, 1, 'l');
        closing(strong, 2, 'n');
    }

    /** 'f' before 'd', 's' and 'l', by the line's own fault and by one in the dark island. */
    private static void ownFaultBeforeTheOthers() {
        Switchgear gear = Net.sourceAndBuses(5, 6, 0);
        gear.addLine(0, 1, 999, false);
        gear.addLine(0, 1, 999, true);
        gear.addLine(0, 1, 1, true);
        gear.addLine(1, 2, 999, true);
        for (int line = 0; line < 3; line++) {
            gear.fault(line);
            closing(gear, line, 'f');
            gear.repair(line);
        }
        Net.closed(gear, 3);
        gear.fault(3);
        for (int line = 0; line < 3; line++) {
            closing(gear, line, 'f');
        }
        gear.setLoad(1, 5);
        closing(gear, 2, 'f');
        gear.repair(3);
        closing(gear, 0, 'd');
        closing(gear, 2, 'l');
        gear.setLoad(1, 6);
        closing(gear, 1, 's');
    }

    /** 'o' before 'f', 'r', 'd', 's' and 'l'. */
    private static void lockoutBeforeTheOthers() {
        Switchgear gear = Net.sourceAndBuses(1, 0, 0);
        gear.addLine(0, 1, 999, false);
        gear.addLine(0, 1, 999, true);
        gear.addLine(1, 2, 999, true);
        gear.addLine(0, 1, 1, true);
        Net.closed(gear, 0);
        CHECK.same("fault(0) without a relay", gear.fault(0), -2);
        closing(gear, 0, 'o');
        gear.repair(0);
        gear.setLoad(1, 1);
        closing(gear, 0, 'o');
        Net.closed(gear, 1);
        closing(gear, 0, 'o');
        opening(gear, 1, 'n');
        gear.setLoad(1, 2);
        closing(gear, 0, 'o');
        Net.closed(gear, 2);
        gear.fault(2);
        closing(gear, 0, 'o');
        gear.reset(0);
        closing(gear, 0, 'f');
        gear.repair(2);
        closing(gear, 0, 'd');
        gear.setLoad(1, 0);
        closing(gear, 0, 'n');

        Switchgear weak = Net.sourceAndBuses(10, 0);
        weak.addLine(0, 1, 1, true);
        locked(weak, 0);
        weak.setLoad(1, 2);
        closing(weak, 0, 'o');
        weak.setLoad(1, 11);
        closing(weak, 0, 'o');
        weak.reset(0);
        closing(weak, 0, 's');
        weak.setLoad(1, 10);
        closing(weak, 0, 'l');
        weak.setLoad(1, 1);
        closing(weak, 0, 'n');
    }
}
