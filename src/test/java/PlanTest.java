/** Promises 40 to 45: the best plan, found in two ways, and its closing. */
public final class PlanTest {
    private static final Check CHECK = new Check("PlanTest");

    public static void main(String[] args) {
        nothingToPlan();
        greatestValue();
        fewestLines();
        lowestNumbers();
        orderOfNumbers();
        whatCanBePlanned();
        limitOfTrying();
        closingThePlan();
        eachAsksAnew();
        CHECK.end();
    }

    /** All ways to ask for the best plan; asking changes nothing. */
    private static void best(Switchgear gear, int value, int... lines) {
        CHECK.same("bestValue()", gear.bestValue(), value);
        CHECK.same("bestSize()", gear.bestSize(), lines.length);
        for (int index = 0; index < lines.length; index++) {
            CHECK.same("bestAt(" + index + ")", gear.bestAt(index), lines[index]);
        }
        for (int index : new int[] {-1, lines.length, Integer.MIN_VALUE, Integer.MAX_VALUE}) {
            CHECK.throwing("bestAt(" + index + ")", IndexOutOfBoundsException.class, () -> gear.bestAt(index));
        }
        CHECK.same("valueByTrying()", gear.valueByTrying(), value);
        CHECK.same("sizeByTrying()", gear.sizeByTrying(), lines.length);
    }

    private static void nothingToPlan() {
        best(new Switchgear(), 0);
        Switchgear gear = new Switchgear();
        gear.addSource(10);
        gear.addBus(0, 9);
        gear.addBus(5, 0);
        gear.addLine(0, 1, 10, true);
        gear.addLine(0, 2, 10, true);
        best(gear, 0);
        CHECK.same("restore() of nothing", gear.restore(), 0);
        CHECK.same("isClosed(0)", gear.isClosed(0), false);
    }

    /** The heavier bus wins, not the first one and not the greater load; what is live already counts. */
    private static void greatestValue() {
        Switchgear gear = new Switchgear();
        gear.addSource(30);
        gear.addBus(20, 1);
        gear.addBus(15, 2);
        gear.addBus(10, 4);
        gear.addBus(5, 1);
        gear.addLine(0, 1, 99, true);
        gear.addLine(0, 2, 99, true);
        gear.addLine(0, 3, 99, true);
        gear.addLine(4, 0, 99, true);
        best(gear, 75, 1, 2, 3);
        gear.close(0);
        best(gear, 60, 2);
        gear.open(0);
        gear.setLoad(4, 6);
        best(gear, 70, 1, 2);
    }

    private static void fewestLines() {
        Switchgear gear = new Switchgear();
        gear.addSource(90);
        gear.addBus(0, 1);
        gear.addBus(20, 1);
        gear.addLine(0, 1, 90, true);
        gear.addLine(1, 2, 90, true);
        gear.addLine(2, 0, 90, true);
        best(gear, 20, 2);
    }

    private static void lowestNumbers() {
        Switchgear gear = new Switchgear();
        gear.addSource(20);
        gear.addSource(20);
        gear.addBus(20, 1);
        gear.addBus(20, 1);
        gear.addBus(20, 1);
        gear.addLine(1, 4, 90, true);
        gear.addLine(1, 3, 90, true);
        gear.addLine(0, 2, 90, true);
        gear.addLine(0, 3, 90, true);
        best(gear, 40, 0, 2);
        gear.fault(2);
        best(gear, 40, 0, 3);
        gear.fault(0);
        best(gear, 20, 1);
    }

    /** The dark part is fed by line 1 only as long as line 0 has not been made first, and so on. */
    private static void orderOfNumbers() {
        Switchgear gear = new Switchgear();
        gear.addSource(50);
        gear.addBus(10, 1);
        gear.addBus(10, 5);
        gear.addLine(1, 2, 10, true);
        gear.addLine(0, 1, 20, true);
        best(gear, 60, 0, 1);
        gear.setLoad(1, 11);
        best(gear, 11, 1);
        gear.setLoad(2, 9);
        best(gear, 56, 0, 1);

        Switchgear turned = new Switchgear();
        turned.addSource(50);
        turned.addBus(30, 1);
        turned.addBus(0, 5);
        turned.addLine(0, 2, 10, true);
        turned.addLine(1, 2, 99, true);
        best(turned, 0);
        turned.setLoad(1, 10);
        best(turned, 10, 0, 1);
    }

    /** Disconnectors, lines with a fault and lines that are locked out belong to no plan. */
    private static void whatCanBePlanned() {
        Switchgear gear = new Switchgear();
        gear.addSource(90);
        gear.addBus(0, 1);
        gear.addBus(10, 1);
        gear.addBus(10, 2);
        gear.addBus(10, 4);
        gear.addLine(0, 1, 90, false);
        gear.addLine(1, 2, 90, true);
        gear.addLine(0, 3, 90, true);
        gear.addLine(0, 4, 90, true);
        best(gear, 60, 2, 3);
        gear.close(0);
        best(gear, 70, 1, 2, 3);
        gear.fault(2);
        best(gear, 50, 1, 3);
        gear.close(1);
        gear.fault(1);
        gear.repair(1);
        best(gear, 40, 3);
        gear.reset(1);
        gear.repair(2);
        best(gear, 70, 1, 2, 3);
        gear.open(0);
        gear.fault(0);
        best(gear, 60, 2, 3);
    }

    private static void limitOfTrying() {
        Switchgear gear = new Switchgear();
        gear.addSource(99);
        for (int bus = 0; bus < 9; bus++) {
            gear.addBus(10 + bus, 1);
        }
        for (int line = 0; line < 9; line++) {
            gear.addLine(0, line + 1, 99, true);
        }
        gear.addLine(1, 2, 99, false);
        best(gear, 99, 0, 1, 2, 5, 6, 7, 8);
        gear.addLine(3, 2, 99, true);
        CHECK.throwing("valueByTrying() of 10 lines", UnsupportedOperationException.class, gear::valueByTrying);
        CHECK.throwing("sizeByTrying() of 10 lines", UnsupportedOperationException.class, gear::sizeByTrying);
        CHECK.same("bestValue() of 10 lines", gear.bestValue(), 99);
        gear.fault(10);
        CHECK.same("valueByTrying() of 9 lines", gear.valueByTrying(), 99);
        gear.repair(10);
        gear.close(10);
        CHECK.same("sizeByTrying() of 9 lines", gear.sizeByTrying(), gear.bestSize());
    }

    private static void closingThePlan() {
        Switchgear gear = new Switchgear();
        gear.addSource(30);
        gear.addBus(20, 1);
        gear.addBus(15, 2);
        gear.addBus(10, 4);
        gear.addLine(0, 1, 99, true);
        gear.addLine(0, 2, 99, true);
        gear.addLine(0, 3, 99, true);
        CHECK.same("restore()", gear.restore(), 2);
        CHECK.same("isClosed(0)", gear.isClosed(0), false);
        CHECK.same("isClosed(1)", gear.isClosed(1), true);
        CHECK.same("isClosed(2)", gear.isClosed(2), true);
        CHECK.same("darkLoad()", gear.darkLoad(), 20);
        CHECK.same("trips()", gear.trips(), 0);
        best(gear, 70);
        CHECK.same("restore() again", gear.restore(), 0);
    }

    /** One bus that is the lowest node, one line: each call is the first one after a change. */
    private static void eachAsksAnew() {
        for (int first = 0; first < 6; first++) {
            Switchgear gear = new Switchgear();
            gear.addBus(7, 6);
            gear.addSource(7);
            gear.addLine(0, 1, 7, true);
            int got = switch (first) {
                case 0 -> gear.bestValue();
                case 1 -> gear.bestSize();
                case 2 -> gear.bestAt(0);
                case 3 -> gear.valueByTrying();
                case 4 -> gear.sizeByTrying();
                default -> gear.restore();
            };
            CHECK.same("the first question, number " + first, got, new int[] {42, 1, 0, 42, 1, 1}[first]);
            CHECK.same("isClosed(0) after it", gear.isClosed(0), first == 5);
            gear.fault(0);
            gear.repair(0);
            got = switch (first) {
                case 0 -> gear.bestValue();
                case 1 -> gear.bestSize();
                case 2 -> gear.islands();
                case 3 -> gear.valueByTrying();
                case 4 -> gear.sizeByTrying();
                default -> gear.reset(0);
            };
            CHECK.same("the next question, number " + first, got, new int[] {42, 1, 2, 42, 1, 0}[first]);
        }
    }
}
