import java.util.NoSuchElementException;

/** Promises 7 to 11: the rules of switching, each reason, and which of them comes first. */
public final class SwitchingTest {
    private static final Check CHECK = new Check("SwitchingTest");

    public static void main(String[] args) {
        noSuchLine();
        closedOrLocked();
        faults();
        radial();
        disconnectors();
        capacity();
        ratings();
        opening();
        CHECK.end();
    }

    /** Asking changes nothing; doing changes the line only if the answer is 'n'. */
    private static void closing(Switchgear gear, int line, char due) {
        boolean before = gear.isClosed(line);
        CHECK.same("canClose(" + line + ")", gear.canClose(line), due);
        CHECK.same("isClosed(" + line + ") after asking", gear.isClosed(line), before);
        if (due != 'l') {
            CHECK.throwing("overloaded(" + line + ") with '" + due + "'", IllegalStateException.class,
                () -> gear.overloaded(line));
        }
        CHECK.same("close(" + line + ")", gear.close(line), due);
        CHECK.same("isClosed(" + line + ") after close", gear.isClosed(line), before || due == 'n');
    }

    private static void opening(Switchgear gear, int line, char due) {
        boolean before = gear.isClosed(line);
        CHECK.same("canOpen(" + line + ")", gear.canOpen(line), due);
        CHECK.same("isClosed(" + line + ") after asking", gear.isClosed(line), before);
        CHECK.same("open(" + line + ")", gear.open(line), due);
        CHECK.same("isClosed(" + line + ") after open", gear.isClosed(line), before && due != 'n');
    }

    private static void noSuchLine() {
        Switchgear gear = new Switchgear();
        gear.addSource(50);
        gear.addBus(10, 1);
        gear.addLine(0, 1, 20, true);
        for (int line : new int[] {-1, 1, Integer.MIN_VALUE, Integer.MAX_VALUE}) {
            CHECK.throwing("close(" + line + ")", NoSuchElementException.class, () -> gear.close(line));
            CHECK.throwing("open(" + line + ")", NoSuchElementException.class, () -> gear.open(line));
            CHECK.throwing("canClose(" + line + ")", NoSuchElementException.class, () -> gear.canClose(line));
            CHECK.throwing("canOpen(" + line + ")", NoSuchElementException.class, () -> gear.canOpen(line));
            CHECK.throwing("overloaded(" + line + ")", NoSuchElementException.class, () -> gear.overloaded(line));
        }
    }

    private static void closedOrLocked() {
        Switchgear gear = new Switchgear();
        gear.addSource(50);
        gear.addBus(10, 1);
        gear.addLine(0, 1, 20, true);
        closing(gear, 0, 'n');
        closing(gear, 0, 'c');
        CHECK.same("fault(0)", gear.fault(0), 0);
        closing(gear, 0, 'o');
        gear.repair(0);
        closing(gear, 0, 'o');
        gear.reset(0);
        closing(gear, 0, 'n');
    }

    /** A fault counts on the line itself, and on closed lines that it would make live, but on no other. */
    private static void faults() {
        Switchgear gear = new Switchgear();
        gear.addSource(90);
        for (int bus = 1; bus <= 5; bus++) {
            gear.addBus(10, 1);
        }
        gear.addLine(0, 1, 99, true);
        gear.addLine(1, 2, 99, true);
        gear.addLine(2, 3, 99, true);
        gear.addLine(3, 4, 99, true);
        gear.addLine(4, 5, 99, true);
        gear.addLine(3, 1, 99, true);
        gear.addLine(2, 3, 99, true);
        closing(gear, 2, 'n');
        gear.fault(2);
        closing(gear, 0, 'n');
        closing(gear, 1, 'f');
        closing(gear, 6, 'r');
        gear.fault(6);
        closing(gear, 6, 'f');
        gear.repair(6);
        closing(gear, 4, 'n');
        closing(gear, 3, 'n');
        closing(gear, 5, 'f');
        gear.fault(1);
        gear.repair(2);
        closing(gear, 1, 'f');
        gear.repair(1);
        closing(gear, 5, 'n');
        closing(gear, 1, 'r');
        gear.fault(1);
        closing(gear, 1, 'f');
    }

    private static void radial() {
        Switchgear gear = new Switchgear();
        gear.addSource(50);
        gear.addSource(50);
        gear.addBus(0, 1);
        gear.addBus(0, 1);
        gear.addLine(0, 2, 20, true);
        gear.addLine(2, 3, 20, true);
        gear.addLine(3, 1, 20, false);
        gear.addLine(0, 1, 20, false);
        gear.addLine(3, 2, 20, true);
        closing(gear, 3, 'r');
        closing(gear, 1, 'n');
        closing(gear, 4, 'r');
        closing(gear, 0, 'n');
        closing(gear, 4, 'r');
        closing(gear, 2, 'r');
        gear.open(0);
        closing(gear, 2, 'n');
        closing(gear, 0, 'r');
    }

    private static void disconnectors() {
        Switchgear gear = new Switchgear();
        gear.addSource(5);
        gear.addBus(10, 1);
        gear.addBus(0, 1);
        gear.addLine(0, 2, 5, false);
        gear.addLine(2, 1, 5, false);
        gear.addLine(0, 2, 5, true);
        closing(gear, 1, 'n');
        closing(gear, 0, 'd');
        closing(gear, 2, 's');
        opening(gear, 1, 'n');
        closing(gear, 0, 'n');
        closing(gear, 1, 'd');
        gear.setLoad(1, 1);
        closing(gear, 1, 'd');
        gear.setLoad(1, 0);
        closing(gear, 1, 'n');
    }

    private static void capacity() {
        Switchgear gear = new Switchgear();
        gear.addSource(30);
        gear.addBus(20, 1);
        gear.addBus(10, 1);
        gear.addBus(1, 1);
        gear.addLine(0, 1, 20, true);
        gear.addLine(0, 2, 9, true);
        gear.addLine(0, 2, 10, true);
        gear.addLine(0, 3, 999, true);
        gear.addLine(1, 3, 999, true);
        closing(gear, 0, 'n');
        closing(gear, 1, 'l');
        CHECK.same("overloaded(1)", gear.overloaded(1), 1);
        closing(gear, 2, 'n');
        closing(gear, 3, 's');
        closing(gear, 4, 's');
        gear.setLoad(3, 0);
        closing(gear, 4, 'n');
        gear.setLoad(1, 19);
        CHECK.throwing("setLoad(3, 2)", IllegalStateException.class, () -> gear.setLoad(3, 2));
    }

    /** The lowest number of the lines that would be overloaded is told, be it new, nearer or farther. */
    private static void ratings() {
        Switchgear gear = new Switchgear();
        gear.addSource(99);
        gear.addBus(10, 1);
        gear.addBus(10, 1);
        gear.addBus(30, 1);
        gear.addBus(5, 1);
        gear.addLine(2, 3, 34, true);
        gear.addLine(1, 2, 50, true);
        gear.addLine(0, 1, 50, true);
        gear.addLine(3, 4, 99, true);
        gear.addLine(0, 3, 44, true);
        gear.addLine(0, 3, 45, true);
        closing(gear, 2, 'n');
        closing(gear, 1, 'n');
        closing(gear, 3, 'n');
        closing(gear, 0, 'l');
        CHECK.same("overloaded(0) by the line itself", gear.overloaded(0), 0);
        gear.setLoad(4, 3);
        closing(gear, 0, 'l');
        CHECK.same("overloaded(0) by the line next to the source", gear.overloaded(0), 2);
        gear.setLoad(4, 0);
        closing(gear, 0, 'n');
        gear.setLoad(1, 5);
        CHECK.same("setLoad(4, 4)", gear.setLoad(4, 4), 0);
        CHECK.throwing("setLoad(4, 5)", IllegalStateException.class, () -> gear.setLoad(4, 5));

        Switchgear turned = new Switchgear();
        turned.addSource(99);
        turned.addBus(30, 1);
        turned.addBus(20, 1);
        turned.addLine(1, 2, 25, true);
        turned.addLine(0, 2, 99, true);
        turned.addLine(0, 1, 99, true);
        closing(turned, 0, 'n');
        closing(turned, 1, 'l');
        CHECK.same("overloaded(1) by a line that was dark", turned.overloaded(1), 0);
        closing(turned, 2, 'n');
    }

    private static void opening() {
        Switchgear gear = new Switchgear();
        gear.addSource(50);
        gear.addBus(0, 1);
        gear.addBus(0, 1);
        gear.addLine(0, 1, 50, false);
        gear.addLine(1, 2, 50, false);
        gear.addLine(0, 2, 50, true);
        opening(gear, 0, 'c');
        opening(gear, 2, 'c');
        closing(gear, 0, 'n');
        closing(gear, 1, 'n');
        gear.setLoad(1, 7);
        opening(gear, 0, 'd');
        opening(gear, 1, 'n');
        closing(gear, 2, 'n');
        gear.setLoad(2, 3);
        opening(gear, 2, 'n');
        opening(gear, 2, 'c');
        gear.setLoad(1, 0);
        opening(gear, 0, 'n');
        gear.setLoad(1, 9);
        closing(gear, 1, 'n');
        opening(gear, 1, 'n');
    }
}
