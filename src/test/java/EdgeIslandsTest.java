/** The boundary cases of "Islands" and "Currents" and of promises 5, 23 to 30, 39, 46 and 47. */
public final class EdgeIslandsTest {
    private static final Class<IllegalStateException> STATE = IllegalStateException.class;
    private static final Class<ArithmeticException> ARITHMETIC = ArithmeticException.class;
    private static final Check CHECK = new Check("EdgeIslandsTest");

    public static void main(String[] args) {
        sameIslandIfTheSame();
        connectedByClosedLinesWithoutException();
        fromNoneToTenIslands();
        lowestNumberFromEveryEnd();
        liveOrDark();
        sourceOfADarkIsland();
        fiveLiveIslands();
        loadOfTheIsland();
        currentIsTheFarSide();
        currentOfAnyOtherLineIs0();
        greatestCurrent();
        setLoadUpToTheCapacity();
        setLoadUpToTheRating();
        setLoadInTheDark();
        darkLoadOfNoneAndAll();
        liveShareOfNoneAndAll();
        meanCurrentOfNoneAndOne();
        CHECK.end();
    }

    private static void island(Switchgear gear, int node, int lowest) {
        CHECK.same("islandOf(" + node + ")", gear.islandOf(node), lowest);
        CHECK.same("islandByRounds(" + node + ")", gear.islandByRounds(node), lowest);
    }

    private static void current(Switchgear gear, int line, int due) {
        CHECK.same("current(" + line + ")", gear.current(line), due);
        CHECK.same("currentByCutting(" + line + ")", gear.currentByCutting(line), due);
    }

    /** "Two nodes are in the same island if they are the same": a node without a line, and with open ones. */
    private static void sameIslandIfTheSame() {
        Switchgear bus = new Switchgear();
        bus.addBus(7, 1);
        island(bus, 0, 0);
        CHECK.same("islands()", bus.islands(), 1);
        CHECK.same("islandLoad(0)", bus.islandLoad(0), 7);
        Switchgear gear = Net.star(50, 7, 8);
        for (int node = 0; node < 3; node++) {
            island(gear, node, node);
        }
        CHECK.same("islandLoad(2)", gear.islandLoad(2), 8);
    }

    /** "or if closed lines without exception lead from the one to the other one." */
    private static void connectedByClosedLinesWithoutException() {
        for (int open = 0; open < 9; open++) {
            Switchgear gear = Net.chain(999, Net.times(9, 1));
            for (int line = 0; line < 9; line++) {
                if (line != open) {
                    Net.closed(gear, line);
                }
            }
            CHECK.same("islands() with one open line", gear.islands(), 2);
            for (int node = 0; node < 10; node++) {
                island(gear, node, node <= open ? 0 : open + 1);
                CHECK.same("isLive(" + node + ")", gear.isLive(node), node <= open);
            }
            Net.closed(gear, open);
            CHECK.same("islands() with none", gear.islands(), 1);
            island(gear, 9, 0);
        }
    }

    /** "Returns the number of islands": none without nodes, as many as nodes without closed lines. */
    private static void fromNoneToTenIslands() {
        Switchgear gear = new Switchgear();
        for (int node = 0; node < 10; node++) {
            CHECK.same("islands()", gear.islands(), node);
            gear.addBus(1, 1);
        }
        CHECK.same("islands() of ten nodes", gear.islands(), 10);
        for (int line = 0; line < 9; line++) {
            gear.addLine(9 - line, 8 - line, 999, true);
            CHECK.same("islands() with an open line", gear.islands(), 10 - line);
            gear.close(line);
            CHECK.same("islands() with a closed line", gear.islands(), 9 - line);
        }
    }

    /** "Returns the lowest number of a node in the island": whichever node is asked, in a row in any order. */
    private static void lowestNumberFromEveryEnd() {
        int[][] rows = {
            {0, 1, 2, 3, 4, 5, 6, 7, 8, 9},
            {9, 8, 7, 6, 5, 4, 3, 2, 1, 0},
            {5, 9, 1, 7, 0, 8, 2, 6, 3, 4},
        };
        for (int[] row : rows) {
            for (int first = 0; first <= 8; first += 8) {
                Switchgear gear = new Switchgear();
                for (int node = 0; node < 10; node++) {
                    gear.addBus(1, 1);
                }
                for (int step = 0; step < 9; step++) {
                    int at = Math.abs(first - step);
                    gear.addLine(row[at], row[at + 1], 999, true);
                }
                Net.closed(gear, Net.upTo(9));
                for (int node = 0; node < 10; node++) {
                    island(gear, node, 0);
                }
                CHECK.same("islands()", gear.islands(), 1);
                CHECK.same("islandLoad(" + row[9] + ")", gear.islandLoad(row[9]), 10);
            }
        }
    }

    /** "An island is live if it contains a source, and dark otherwise." */
    private static void liveOrDark() {
        for (int source = 0; source < 10; source++) {
            Switchgear gear = new Switchgear();
            for (int node = 0; node < 10; node++) {
                if (node == source) {
                    gear.addSource(999);
                } else {
                    gear.addBus(1, 1);
                }
            }
            for (int line = 0; line < 9; line++) {
                gear.addLine(line, line + 1, 999, true);
            }
            for (int node = 0; node < 10; node++) {
                CHECK.same("isLive(" + node + ") apart", gear.isLive(node), node == source);
            }
            Net.closed(gear, Net.upTo(9));
            for (int node = 0; node < 10; node++) {
                CHECK.same("isLive(" + node + ")", gear.isLive(node), true);
                CHECK.same("sourceOf(" + node + ")", gear.sourceOf(node), source);
            }
            CHECK.same("darkLoad()", gear.darkLoad(), 0);
        }
    }

    /** "Throws IllegalStateException if the island is dark." */
    private static void sourceOfADarkIsland() {
        Switchgear gear = Net.chain(50, 1, 1);
        Net.closed(gear, 1);
        CHECK.same("sourceOf(0)", gear.sourceOf(0), 0);
        CHECK.throwing("sourceOf(1)", STATE, () -> gear.sourceOf(1));
        CHECK.throwing("sourceOf(2)", STATE, () -> gear.sourceOf(2));
        Net.closed(gear, 0);
        CHECK.same("sourceOf(2) when it is live", gear.sourceOf(2), 0);
        gear.open(0);
        CHECK.throwing("sourceOf(1) when it is dark again", STATE, () -> gear.sourceOf(1));
    }

    /** "no island contains two sources": five live islands of two nodes, none of which can be joined. */
    private static void fiveLiveIslands() {
        Switchgear gear = new Switchgear();
        for (int pair = 0; pair < 5; pair++) {
            gear.addSource(10 + pair);
            gear.addBus(10 + pair, 1);
        }
        for (int pair = 0; pair < 5; pair++) {
            gear.addLine(2 * pair, 2 * pair + 1, 999, true);
        }
        for (int pair = 0; pair < 4; pair++) {
            gear.addLine(2 * pair + 1, 2 * pair + 3, 999, true);
        }
        gear.addLine(0, 8, 999, true);
        Net.closed(gear, Net.upTo(5));
        for (int node = 0; node < 10; node++) {
            CHECK.same("sourceOf(" + node + ")", gear.sourceOf(node), node - node % 2);
            CHECK.same("islandLoad(" + node + ")", gear.islandLoad(node), 10 + node / 2);
        }
        for (int line = 5; line < 10; line++) {
            CHECK.same("close(" + line + ")", gear.close(line), 'r');
        }
        CHECK.same("islands()", gear.islands(), 5);
    }

    /** "Returns the sum of the loads of the buses of the island of a node, live or dark." */
    private static void loadOfTheIsland() {
        Switchgear alone = Net.sourceAndBuses(1, 0);
        CHECK.same("islandLoad of a source alone", alone.islandLoad(0), 0);
        CHECK.same("islandLoad of a bus without load", alone.islandLoad(1), 0);
        Switchgear live = Net.closed(Net.chain(891, Net.times(9, 99)), Net.upTo(9));
        CHECK.same("the greatest load of a live island", live.islandLoad(0), 891);
        CHECK.same("from its end", live.islandLoad(9), 891);
        Switchgear dark = new Switchgear();
        for (int node = 0; node < 10; node++) {
            dark.addBus(99, 9);
        }
        for (int line = 0; line < 9; line++) {
            dark.addLine(line + 1, line, 1, false);
        }
        Net.closed(dark, Net.upTo(9));
        CHECK.same("the greatest load of a dark island", dark.islandLoad(9), 990);
    }

    /** "the sum of the loads of the nodes on that side of the line on which the source is not." */
    private static void currentIsTheFarSide() {
        int[] loads = {1, 2, 4, 8, 16, 32, 64};
        for (int source = 0; source < 8; source++) {
            Switchgear gear = new Switchgear();
            for (int node = 0; node < 8; node++) {
                if (node == source) {
                    gear.addSource(999);
                } else {
                    gear.addBus(loads[node < source ? node : node - 1], 1);
                }
            }
            for (int line = 0; line < 7; line++) {
                gear.addLine(line + line % 2, line + 1 - line % 2, 999, true);
            }
            Net.closed(gear, Net.upTo(7));
            for (int line = 0; line < 7; line++) {
                int far = line < source ? (1 << line + 1) - 1 : 127 - ((1 << line) - 1);
                current(gear, line, far);
            }
        }
    }

    /** "The current of any other line is 0": an open one, one of a dark island, and one with no load behind it. */
    private static void currentOfAnyOtherLineIs0() {
        Switchgear gear = Net.chain(50, 5, 5, 5, 0);
        gear.addLine(0, 4, 999, true);
        for (int line = 0; line < 5; line++) {
            current(gear, line, 0);
        }
        Net.closed(gear, 1, 2);
        for (int line = 0; line < 5; line++) {
            current(gear, line, 0);
        }
        Net.closed(gear, 4);
        current(gear, 4, 0);
        Net.closed(gear, 0);
        current(gear, 0, 15);
        current(gear, 1, 10);
        current(gear, 2, 5);
        current(gear, 3, 0);
        gear.open(0);
        current(gear, 1, 0);
    }

    /** Nine buses of load 99 behind one line: no current can be greater. */
    private static void greatestCurrent() {
        Switchgear gear = Net.closed(Net.chain(999, Net.times(9, 99)), Net.upTo(9));
        for (int line = 0; line < 9; line++) {
            current(gear, line, 891 - 99 * line);
        }
        CHECK.same("meanCurrent()", gear.meanCurrent(), 495.0);
    }

    /** "if the load of a live island would be greater than the capacity of its source". */
    private static void setLoadUpToTheCapacity() {
        Switchgear gear = Net.closed(Net.star(100, 1, 1, 0), 0, 1, 2);
        CHECK.same("setLoad(1, 99), one source's capacity", gear.setLoad(1, 99), 1);
        CHECK.throwing("setLoad(2, 2), one above it", STATE, () -> gear.setLoad(2, 2));
        CHECK.throwing("setLoad(3, 1), one above it", STATE, () -> gear.setLoad(3, 1));
        CHECK.same("setLoad(2, 1), the same", gear.setLoad(2, 1), 1);
        CHECK.same("setLoad(3, 0), the same", gear.setLoad(3, 0), 0);
        CHECK.same("islandLoad(0)", gear.islandLoad(0), 100);
        CHECK.same("setLoad(1, 98), one below it", gear.setLoad(1, 98), 99);
        CHECK.same("setLoad(3, 1)", gear.setLoad(3, 1), 0);
    }

    /** "or the current of a line greater than its rating": of the line at the bus, and of each one before it. */
    private static void setLoadUpToTheRating() {
        for (int weak = 0; weak < 3; weak++) {
            Switchgear gear = Net.sourceAndBuses(999, 1, 1, 1);
            for (int line = 0; line < 3; line++) {
                gear.addLine(line, line + 1, line == weak ? 13 - line : 999, true);
            }
            Net.closed(gear, 0, 1, 2);
            CHECK.same("setLoad(3, 11), the rating of " + weak, gear.setLoad(3, 11), 1);
            CHECK.throwing("setLoad(3, 12), one above it", STATE, () -> gear.setLoad(3, 12));
            CHECK.throwing("setLoad(3, 99), far above it", STATE, () -> gear.setLoad(3, 99));
            CHECK.same("current(" + weak + ")", gear.current(weak), 13 - weak);
            CHECK.same("loadOf(3)", gear.loadOf(3), 11);
            CHECK.same("setLoad(3, 0)", gear.setLoad(3, 0), 11);
        }
    }

    /** In a dark island neither a capacity nor a rating limits the load. */
    private static void setLoadInTheDark() {
        Switchgear gear = Net.sourceAndBuses(1, 0, 0);
        gear.addLine(0, 1, 1, true);
        gear.addLine(1, 2, 1, true);
        Net.closed(gear, 1);
        CHECK.same("setLoad(2, 99)", gear.setLoad(2, 99), 0);
        CHECK.same("setLoad(1, 99)", gear.setLoad(1, 99), 0);
        CHECK.same("islandLoad(1)", gear.islandLoad(1), 198);
        CHECK.same("close(0)", gear.close(0), 's');
        gear.setLoad(1, 0);
        gear.setLoad(2, 1);
        Net.closed(gear, 0);
        CHECK.throwing("setLoad(1, 1) when it is live", STATE, () -> gear.setLoad(1, 1));
        gear.fault(1);
        CHECK.same("setLoad(2, 99) when it is dark again", gear.setLoad(2, 99), 1);
    }

    /** "Returns the sum of the loads of all buses of dark islands." */
    private static void darkLoadOfNoneAndAll() {
        Switchgear gear = Net.star(999, Net.times(9, 99));
        CHECK.same("darkLoad() of all", gear.darkLoad(), 891);
        for (int line = 0; line < 9; line++) {
            gear.close(line);
            CHECK.same("darkLoad()", gear.darkLoad(), 891 - 99 * (line + 1));
        }
        gear.open(8);
        CHECK.same("darkLoad() of the last", gear.darkLoad(), 99);
    }

    /** "Throws ArithmeticException if the sum of all loads is 0"; both sums converted to float. */
    private static void liveShareOfNoneAndAll() {
        Switchgear gear = Net.star(999, 0, 0, 0);
        CHECK.throwing("liveShare() of buses without load", ARITHMETIC, gear::liveShare);
        Net.closed(gear, 0, 1);
        CHECK.throwing("liveShare() of live buses without load", ARITHMETIC, gear::liveShare);
        gear.setLoad(3, 1);
        CHECK.same("liveShare() of a dark load of 1", gear.liveShare(), 0f);
        gear.setLoad(1, 1);
        CHECK.same("liveShare() of a half", gear.liveShare(), 0.5f);
        gear.setLoad(3, 2);
        CHECK.same("liveShare() of a third", gear.liveShare(), 1f / 3f);
        gear.setLoad(3, 0);
        CHECK.same("liveShare() of all", gear.liveShare(), 1f);
        gear.setLoad(1, 0);
        CHECK.throwing("liveShare() without load again", ARITHMETIC, gear::liveShare);
        Switchgear sources = new Switchgear();
        sources.addSource(999);
        CHECK.throwing("liveShare() of a source alone", ARITHMETIC, sources::liveShare);
        Switchgear most = Net.closed(Net.star(999, Net.times(9, 99)), 0, 1);
        CHECK.same("liveShare() of the greatest sum", most.liveShare(), 198f / 891f);
    }

    /** "Throws ArithmeticException if there are none": no line, no closed one, none of a live island. */
    private static void meanCurrentOfNoneAndOne() {
        Switchgear gear = Net.sourceAndBuses(999, 0, 1, 1);
        CHECK.throwing("meanCurrent() without lines", ARITHMETIC, gear::meanCurrent);
        gear.addLine(0, 1, 999, true);
        gear.addLine(2, 3, 999, true);
        gear.addLine(1, 2, 999, true);
        CHECK.throwing("meanCurrent() of open lines", ARITHMETIC, gear::meanCurrent);
        Net.closed(gear, 1);
        CHECK.throwing("meanCurrent() of a dark line", ARITHMETIC, gear::meanCurrent);
        Net.closed(gear, 0);
        CHECK.same("meanCurrent() of one line of current 0", gear.meanCurrent(), 0.0);
        Net.closed(gear, 2);
        CHECK.same("meanCurrent() of 2, 1 and 2", gear.meanCurrent(), 5.0 / 3.0);
        gear.setLoad(2, 0);
        CHECK.same("meanCurrent() of three times 1", gear.meanCurrent(), 1.0);
        gear.setLoad(3, 0);
        gear.setLoad(1, 1);
        CHECK.same("meanCurrent() of 1, 0 and 0", gear.meanCurrent(), 1.0 / 3.0);
        gear.open(0);
        CHECK.throwing("meanCurrent() when all is dark again", ARITHMETIC, gear::meanCurrent);
    }
}
