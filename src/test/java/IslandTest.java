import java.util.NoSuchElementException;

/** Promises 23 to 30, 39, 46 and 47: islands, currents, and sums over the live part. */
public final class IslandTest {
    private static final Check CHECK = new Check("IslandTest");

    public static void main(String[] args) {
        noSuch();
        longChain();
        backwardChain();
        twoSources();
        emptySums();
        CHECK.end();
    }

    private static void island(Switchgear gear, int node, int lowest, int source, int load) {
        CHECK.same("islandOf(" + node + ")", gear.islandOf(node), lowest);
        CHECK.same("islandByRounds(" + node + ")", gear.islandByRounds(node), lowest);
        CHECK.same("islandLoad(" + node + ")", gear.islandLoad(node), load);
        CHECK.same("isLive(" + node + ")", gear.isLive(node), source >= 0);
        if (source >= 0) {
            CHECK.same("sourceOf(" + node + ")", gear.sourceOf(node), source);
        } else {
            CHECK.throwing("sourceOf(" + node + ")", IllegalStateException.class, () -> gear.sourceOf(node));
        }
    }

    private static void current(Switchgear gear, int line, int due) {
        CHECK.same("current(" + line + ")", gear.current(line), due);
        CHECK.same("currentByCutting(" + line + ")", gear.currentByCutting(line), due);
    }

    private static void noSuch() {
        Switchgear gear = new Switchgear();
        gear.addSource(50);
        gear.addBus(10, 1);
        gear.addLine(0, 1, 20, true);
        for (int node : new int[] {-1, 2, Integer.MIN_VALUE, Integer.MAX_VALUE}) {
            CHECK.throwing("islandOf", NoSuchElementException.class, () -> gear.islandOf(node));
            CHECK.throwing("islandByRounds", NoSuchElementException.class, () -> gear.islandByRounds(node));
            CHECK.throwing("isLive", NoSuchElementException.class, () -> gear.isLive(node));
            CHECK.throwing("sourceOf", NoSuchElementException.class, () -> gear.sourceOf(node));
            CHECK.throwing("islandLoad", NoSuchElementException.class, () -> gear.islandLoad(node));
        }
        for (int line : new int[] {-1, 1, Integer.MIN_VALUE, Integer.MAX_VALUE}) {
            CHECK.throwing("current", NoSuchElementException.class, () -> gear.current(line));
            CHECK.throwing("currentByCutting", NoSuchElementException.class, () -> gear.currentByCutting(line));
        }
    }

    /** Ten nodes in a row, the source at the end: the longest path there can be. */
    private static void longChain() {
        Switchgear gear = new Switchgear();
        for (int bus = 0; bus < 9; bus++) {
            gear.addBus(bus + 1, 1);
        }
        gear.addSource(45);
        for (int bus = 8; bus >= 0; bus--) {
            gear.addLine(bus, bus + 1, 45, true);
        }
        CHECK.same("islands() when all is open", gear.islands(), 10);
        CHECK.same("darkLoad() when all is open", gear.darkLoad(), 45);
        for (int line = 8; line >= 1; line--) {
            gear.close(line);
            current(gear, line, 0);
        }
        CHECK.same("islands() of a dark chain", gear.islands(), 2);
        island(gear, 8, 0, -1, 45);
        island(gear, 9, 9, 9, 0);
        CHECK.same("close(0)", gear.close(0), 'n');
        CHECK.same("islands() of a live chain", gear.islands(), 1);
        for (int node = 0; node < 10; node++) {
            island(gear, node, 0, 9, 45);
        }
        int beyond = 45;
        for (int line = 0; line < 9; line++) {
            current(gear, line, beyond);
            beyond -= 9 - line;
        }
        CHECK.same("darkLoad()", gear.darkLoad(), 0);
        CHECK.same("liveShare()", gear.liveShare(), 1f);
        CHECK.same("meanCurrent()", gear.meanCurrent(), (45 + 36 + 28 + 21 + 15 + 10 + 6 + 3 + 1) / 9.0);
        CHECK.same("distance(8)", gear.distance(8), 9);
        for (int index = 0; index < 9; index++) {
            CHECK.same("pathAt(8, " + index + ")", gear.pathAt(8, index), index);
        }
    }

    /** The numbers of the lines run against the rounds, so that each round brings one node. */
    private static void backwardChain() {
        Switchgear gear = new Switchgear();
        for (int bus = 0; bus < 10; bus++) {
            gear.addBus(1, 1);
        }
        for (int bus = 0; bus < 9; bus++) {
            gear.addLine(bus, bus + 1, 45, true);
            gear.close(bus);
        }
        for (int node = 0; node < 10; node++) {
            island(gear, node, 0, -1, 10);
        }
    }

    private static void twoSources() {
        Switchgear gear = new Switchgear();
        gear.addBus(7, 1);
        gear.addSource(60);
        gear.addBus(11, 2);
        gear.addBus(13, 3);
        gear.addSource(40);
        gear.addBus(17, 4);
        gear.addBus(19, 0);
        gear.addLine(2, 1, 60, true);
        gear.addLine(2, 0, 60, true);
        gear.addLine(3, 2, 60, true);
        gear.addLine(4, 5, 60, true);
        gear.addLine(6, 5, 60, true);
        gear.addLine(6, 0, 60, true);
        gear.close(0);
        gear.close(1);
        gear.close(2);
        gear.close(4);
        island(gear, 0, 0, 1, 31);
        island(gear, 1, 0, 1, 31);
        island(gear, 3, 0, 1, 31);
        island(gear, 4, 4, 4, 0);
        island(gear, 5, 5, -1, 36);
        island(gear, 6, 5, -1, 36);
        CHECK.same("islands()", gear.islands(), 3);
        CHECK.same("darkLoad()", gear.darkLoad(), 36);
        current(gear, 0, 31);
        current(gear, 1, 7);
        current(gear, 2, 13);
        current(gear, 3, 0);
        current(gear, 4, 0);
        current(gear, 5, 0);
        CHECK.same("liveShare()", gear.liveShare(), 31f / 67f);
        CHECK.same("meanCurrent()", gear.meanCurrent(), 51.0 / 3.0);
        CHECK.same("close(3)", gear.close(3), 'n');
        current(gear, 3, 36);
        current(gear, 4, 19);
        CHECK.same("islands() after close(3)", gear.islands(), 2);
        CHECK.same("meanCurrent() after close(3)", gear.meanCurrent(), 106.0 / 5.0);
        CHECK.same("liveShare() after close(3)", gear.liveShare(), 1f);
        CHECK.same("darkLoad() after close(3)", gear.darkLoad(), 0);
    }

    private static void emptySums() {
        Switchgear gear = new Switchgear();
        CHECK.throwing("liveShare() of nothing", ArithmeticException.class, gear::liveShare);
        CHECK.throwing("meanCurrent() of nothing", ArithmeticException.class, gear::meanCurrent);
        gear.addSource(50);
        gear.addBus(0, 9);
        gear.addBus(0, 9);
        gear.addLine(1, 2, 5, true);
        gear.addLine(0, 1, 5, true);
        CHECK.throwing("liveShare() without load", ArithmeticException.class, gear::liveShare);
        gear.close(0);
        CHECK.throwing("meanCurrent() of dark lines", ArithmeticException.class, gear::meanCurrent);
        gear.close(1);
        CHECK.same("meanCurrent() without load", gear.meanCurrent(), 0.0);
        CHECK.throwing("liveShare() without load, live", ArithmeticException.class, gear::liveShare);
        gear.open(1);
        gear.setLoad(2, 3);
        CHECK.same("liveShare() of the dark", gear.liveShare(), 0f);
        gear.close(1);
        CHECK.same("meanCurrent() asked first", gear.meanCurrent(), 3.0);
        gear.setLoad(2, 0);
        gear.setLoad(1, 5);
        CHECK.same("meanCurrent() asked first again", gear.meanCurrent(), 2.5);
    }
}
