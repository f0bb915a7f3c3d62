import java.util.List;
import java.util.NoSuchElementException;
import java.util.function.Function;
import java.util.function.Supplier;

/**
 * "A method that throws an exception changes nothing", nor does a refused close or open, nor a question:
 * a network with the call and one without it give the same picture.
 */
public final class UnchangedTest {
    private static final Class<IllegalArgumentException> ARGUMENT = IllegalArgumentException.class;
    private static final Class<IllegalStateException> STATE = IllegalStateException.class;
    private static final Class<NoSuchElementException> NO_SUCH = NoSuchElementException.class;
    private static final Class<UnsupportedOperationException> UNSUPPORTED = UnsupportedOperationException.class;
    private static final Class<IndexOutOfBoundsException> INDEX = IndexOutOfBoundsException.class;
    private static final Check CHECK = new Check("UnchangedTest");

    public static void main(String[] args) {
        aPictureShowsEachChange();
        refusedWhenEmpty();
        refusedWhenFull();
        refusedArguments();
        refusedLoads();
        refusedRelays();
        refusedClosing();
        refusedOpening();
        refusedFaults();
        refusedQuestions();
        refusedTrying();
        questions();
        missing();
        CHECK.end();
    }

    private static void unchanged(String name, Supplier<Switchgear> made, Object due,
            Function<Switchgear, Object> call) {
        Switchgear without = made.get();
        Switchgear with = made.get();
        CHECK.same(name, Picture.answer(with, call), due);
        CHECK.same(name + " again", Picture.answer(with, call), due);
        CHECK.same("what " + name + " changes", firstDifference(Picture.of(with), Picture.of(without)), "nothing");
    }

    private static String firstDifference(List<String> got, List<String> due) {
        for (int at = 0; at < Math.min(got.size(), due.size()); at++) {
            if (!got.get(at).equals(due.get(at))) {
                return got.get(at) + " instead of " + due.get(at);
            }
        }
        return got.size() == due.size() ? "nothing" : "the number of answers";
    }

    /**
     * Ten nodes, twelve lines. Live: 0-1-2 by lines 0 and 1, 0-3 by the disconnector 2, 6-7 by line 6. Dark: 4-5 by
     * line 3, which has a fault, and 8-9 by the disconnector 7. Line 8 is locked out.
     */
    private static Switchgear rich() {
        Switchgear gear = new Switchgear();
        gear.addSource(60);
        int[] loads = {10, 20, 0, 7, 8};
        for (int bus = 0; bus < loads.length; bus++) {
            gear.addBus(loads[bus], 1 + bus);
        }
        gear.addSource(30);
        gear.addBus(5, 9);
        gear.addBus(20, 2);
        gear.addBus(31, 3);
        gear.addLine(0, 1, 35, true);
        gear.addLine(1, 2, 25, true);
        gear.addLine(0, 3, 50, false);
        gear.addLine(4, 5, 40, true);
        gear.addLine(3, 4, 90, true);
        gear.addLine(2, 7, 90, true);
        gear.addLine(6, 7, 28, true);
        gear.addLine(8, 9, 90, false);
        gear.addLine(0, 2, 90, true);
        gear.addLine(2, 8, 90, false);
        gear.addLine(7, 8, 90, true);
        gear.addLine(1, 9, 90, true);
        Net.closed(gear, 8);
        gear.fault(8);
        gear.repair(8);
        gear.setRelay(0, 35, 4, 0);
        gear.setRelay(1, 90, 1, 310);
        Net.closed(gear, 0, 1, 2, 3, 6, 7);
        gear.fault(3);
        gear.setLoad(3, 2);
        return gear;
    }

    private static Switchgear dead() {
        Switchgear gear = Net.sourceAndBuses(60, 0, 0);
        gear.addLine(1, 2, 60, true);
        gear.addLine(0, 1, 60, false);
        Net.closed(gear, 0);
        return gear;
    }

    /** A picture that would not tell a change would let every test here pass. */
    private static void aPictureShowsEachChange() {
        changed("setLoad", gear -> gear.setLoad(9, 30));
        changed("setRelay's pickup", gear -> gear.setRelay(11, 89, 1, 0));
        changed("setRelay's multiplier", gear -> gear.setRelay(1, 90, 3, 310));
        changed("setRelay's step", gear -> gear.setRelay(11, 90, 1, 91));
        changed("close", gear -> gear.close(9) == 'n' ? 'n' : gear.open(7));
        changed("open", gear -> gear.open(1));
        changed("fault", gear -> gear.fault(4));
        changed("repair", gear -> gear.repair(3));
        changed("reset", gear -> gear.reset(8));
        changed("restore", gear -> gear.open(3) == 'n' ? gear.restore() : -1);
        Switchgear small = dead();
        Switchgear grown = dead();
        grown.addSource(1);
        CHECK.same("a picture shows addSource", Picture.of(grown).equals(Picture.of(small)), false);
        CHECK.same("pictures of the same", Picture.of(rich()), Picture.of(rich()));
    }

    private static void changed(String name, Function<Switchgear, Object> call) {
        Switchgear gear = rich();
        call.apply(gear);
        CHECK.same("a picture shows " + name, Picture.of(gear).equals(Picture.of(rich())), false);
    }

    private static void refusedWhenEmpty() {
        unchanged("addSource(0)", Switchgear::new, ARGUMENT, gear -> gear.addSource(0));
        unchanged("addSource(1000)", Switchgear::new, ARGUMENT, gear -> gear.addSource(1000));
        unchanged("addBus(100, 0)", Switchgear::new, ARGUMENT, gear -> gear.addBus(100, 0));
        unchanged("addBus(0, 10)", Switchgear::new, ARGUMENT, gear -> gear.addBus(0, 10));
        unchanged("addLine(0, 1)", Switchgear::new, NO_SUCH, gear -> gear.addLine(0, 1, 5, true));
        unchanged("bestAt(0)", Switchgear::new, INDEX, gear -> gear.bestAt(0));
        unchanged("liveShare()", Switchgear::new, ArithmeticException.class, Switchgear::liveShare);
        unchanged("meanCurrent()", Switchgear::new, ArithmeticException.class, Switchgear::meanCurrent);
        unchanged("restore()", Switchgear::new, 0, Switchgear::restore);
    }

    private static void refusedWhenFull() {
        unchanged("addSource(5)", UnchangedTest::rich, STATE, gear -> gear.addSource(5));
        unchanged("addBus(5, 5)", UnchangedTest::rich, STATE, gear -> gear.addBus(5, 5));
        unchanged("addLine(0, 9, 5, true)", UnchangedTest::rich, STATE, gear -> gear.addLine(0, 9, 5, true));
        unchanged("addLine(0, 9, 5, false)", UnchangedTest::rich, STATE, gear -> gear.addLine(0, 9, 5, false));
    }

    private static void refusedArguments() {
        Supplier<Switchgear> room = UnchangedTest::dead;
        unchanged("addSource(0)", room, ARGUMENT, gear -> gear.addSource(0));
        unchanged("addSource(1000)", room, ARGUMENT, gear -> gear.addSource(1000));
        unchanged("addBus(-1, 5)", room, ARGUMENT, gear -> gear.addBus(-1, 5));
        unchanged("addBus(5, -1)", room, ARGUMENT, gear -> gear.addBus(5, -1));
        unchanged("addLine(1, 1, 5)", room, ARGUMENT, gear -> gear.addLine(1, 1, 5, true));
        unchanged("addLine(0, 1, 0)", room, ARGUMENT, gear -> gear.addLine(0, 1, 0, true));
        unchanged("addLine(0, 1, 1000)", room, ARGUMENT, gear -> gear.addLine(0, 1, 1000, false));
        unchanged("addLine(0, 3, 5)", room, NO_SUCH, gear -> gear.addLine(0, 3, 5, true));
        unchanged("addLine(-1, 0, 5)", room, NO_SUCH, gear -> gear.addLine(-1, 0, 5, true));
    }

    private static void refusedLoads() {
        Supplier<Switchgear> rich = UnchangedTest::rich;
        unchanged("setLoad above the rating of line 1", rich, STATE, gear -> gear.setLoad(2, 26));
        unchanged("setLoad above the rating of line 0", rich, STATE, gear -> gear.setLoad(1, 16));
        unchanged("setLoad above the capacity", rich, STATE, gear -> gear.setLoad(3, 99));
        unchanged("setLoad above the other capacity", rich, STATE, gear -> gear.setLoad(7, 31));
        unchanged("setLoad above the other rating", rich, STATE, gear -> gear.setLoad(7, 29));
        unchanged("setLoad(1, 100)", rich, ARGUMENT, gear -> gear.setLoad(1, 100));
        unchanged("setLoad(8, -1)", rich, ARGUMENT, gear -> gear.setLoad(8, -1));
        unchanged("setLoad(0, 5)", rich, UNSUPPORTED, gear -> gear.setLoad(0, 5));
        unchanged("setLoad(6, 0)", rich, UNSUPPORTED, gear -> gear.setLoad(6, 0));
    }

    private static void refusedRelays() {
        Supplier<Switchgear> rich = UnchangedTest::rich;
        unchanged("setRelay's pickup 0", rich, ARGUMENT, gear -> gear.setRelay(1, 0, 5, 400));
        unchanged("setRelay's pickup 1000", rich, ARGUMENT, gear -> gear.setRelay(1, 1000, 5, 0));
        unchanged("setRelay's multiplier 0", rich, ARGUMENT, gear -> gear.setRelay(1, 40, 0, 400));
        unchanged("setRelay's multiplier 11", rich, ARGUMENT, gear -> gear.setRelay(1, 40, 11, 400));
        unchanged("setRelay's step of the pickup", rich, ARGUMENT, gear -> gear.setRelay(1, 40, 5, 40));
        unchanged("setRelay's step below 0", rich, ARGUMENT, gear -> gear.setRelay(1, 40, 5, -1));
        unchanged("setRelay of a disconnector", rich, UNSUPPORTED, gear -> gear.setRelay(2, 40, 5, 0));
        unchanged("tripTime of 0", rich, ARGUMENT, gear -> gear.tripTime(1, 0));
        unchanged("tripTime of 100000", rich, ARGUMENT, gear -> gear.tripTime(1, 100000));
        unchanged("tripTime of a disconnector", rich, UNSUPPORTED, gear -> gear.tripTime(2, 1));
    }

    /** "Returns 'n' if it is closed by this, otherwise the reason why it cannot": then it is not. */
    private static void refusedClosing() {
        Supplier<Switchgear> rich = UnchangedTest::rich;
        Supplier<Switchgear> weak = () -> {
            Switchgear gear = rich();
            gear.setLoad(2, 0);
            gear.setLoad(8, 0);
            return gear;
        };
        closing("a closed line", rich, 0, 'c');
        closing("a line that is locked out", rich, 8, 'o');
        closing("a line to a dark island with a fault", rich, 4, 'f');
        closing("a line between two live islands", rich, 5, 'r');
        closing("a disconnector to a dark load", rich, 9, 'd');
        closing("a line to a load above the capacity", rich, 10, 's');
        closing("a line to a load above a rating", weak, 11, 'l');
        unchanged("overloaded by it", weak, 0, gear -> gear.overloaded(11));
    }

    private static void closing(String name, Supplier<Switchgear> made, int line, char due) {
        unchanged("close of " + name, made, due, gear -> gear.close(line));
        unchanged("canClose of " + name, made, due, gear -> gear.canClose(line));
        if (due != 'l') {
            unchanged("overloaded of " + name, made, STATE, gear -> gear.overloaded(line));
        }
    }

    private static void refusedOpening() {
        Supplier<Switchgear> rich = UnchangedTest::rich;
        unchanged("open of an open breaker", rich, 'c', gear -> gear.open(4));
        unchanged("open of an open disconnector", rich, 'c', gear -> gear.open(9));
        unchanged("open of a line that is locked out", rich, 'c', gear -> gear.open(8));
        unchanged("open of a disconnector under current", rich, 'd', gear -> gear.open(2));
        unchanged("canOpen of a disconnector under current", rich, 'd', gear -> gear.canOpen(2));
        unchanged("canOpen of a breaker", rich, 'n', gear -> gear.canOpen(0));
    }

    private static void refusedFaults() {
        Supplier<Switchgear> rich = UnchangedTest::rich;
        Supplier<Switchgear> both = () -> {
            Switchgear gear = rich();
            gear.fault(8);
            return gear;
        };
        unchanged("fault of a line with a fault", rich, STATE, gear -> gear.fault(3));
        unchanged("fault of a line with a fault and locked out", both, STATE, gear -> gear.fault(8));
        unchanged("repair of a closed line without a fault", rich, STATE, gear -> gear.repair(0));
        unchanged("repair of a line that is locked out", rich, STATE, gear -> gear.repair(8));
        unchanged("reset of a line with a fault", rich, UNSUPPORTED, gear -> gear.reset(3));
        unchanged("reset of a line with a fault and locked out", both, UNSUPPORTED, gear -> gear.reset(8));
        unchanged("reset of a closed line", rich, STATE, gear -> gear.reset(0));
        unchanged("reset of an open line", rich, STATE, gear -> gear.reset(5));
    }

    private static void refusedQuestions() {
        Supplier<Switchgear> rich = UnchangedTest::rich;
        unchanged("weight of a source", rich, UNSUPPORTED, gear -> gear.weight(6));
        unchanged("sourceOf a dark node", rich, STATE, gear -> gear.sourceOf(9));
        unchanged("distance of a dark line", rich, STATE, gear -> gear.distance(3));
        unchanged("distance of an open line", rich, STATE, gear -> gear.distance(5));
        unchanged("faultCurrent of a dark line", rich, STATE, gear -> gear.faultCurrent(7));
        unchanged("pathAt of a dark line", rich, STATE, gear -> gear.pathAt(7, 0));
        unchanged("pathAt(1, 2)", rich, INDEX, gear -> gear.pathAt(1, 2));
        unchanged("pathAt(1, -1)", rich, INDEX, gear -> gear.pathAt(1, -1));
        unchanged("margin of a disconnector", rich, STATE, gear -> gear.margin(2));
        unchanged("margin next to the source", rich, UNSUPPORTED, gear -> gear.margin(0));
        unchanged("bestAt(-1)", rich, INDEX, gear -> gear.bestAt(-1));
        unchanged("bestAt(9)", rich, INDEX, gear -> gear.bestAt(9));
        unchanged("liveShare() without load", UnchangedTest::dead, ArithmeticException.class, Switchgear::liveShare);
        unchanged("meanCurrent() in the dark", UnchangedTest::dead, ArithmeticException.class,
            Switchgear::meanCurrent);
    }

    private static void refusedTrying() {
        Supplier<Switchgear> many = () -> {
            Switchgear gear = Net.star(20, 9, 8, 7, 6, 5, 4, 3);
            gear.addLine(1, 2, 99, true);
            gear.addLine(3, 4, 99, true);
            gear.addLine(5, 6, 99, true);
            return gear;
        };
        unchanged("valueByTrying() of ten lines", many, UNSUPPORTED, Switchgear::valueByTrying);
        unchanged("sizeByTrying() of ten lines", many, UNSUPPORTED, Switchgear::sizeByTrying);
        unchanged("bestValue() of ten lines", many, 20, Switchgear::bestValue);
    }

    /** What only asks changes nothing when it answers, either. */
    private static void questions() {
        Supplier<Switchgear> rich = UnchangedTest::rich;
        Supplier<Switchgear> opened = () -> {
            Switchgear gear = rich();
            gear.open(3);
            return gear;
        };
        unchanged("canClose of a line that can", opened, 'n', gear -> gear.canClose(4));
        unchanged("wouldTrip of a line whose relay would", rich, 1, gear -> gear.wouldTrip(1));
        unchanged("wouldTrip of a line without relays", rich, -2, gear -> gear.wouldTrip(2));
        unchanged("wouldTrip of a dark line", rich, -1, gear -> gear.wouldTrip(7));
        unchanged("isSelective", rich, true, gear -> gear.isSelective(1));
        unchanged("margin", rich, 1, gear -> gear.margin(1));
        unchanged("currentByCutting", rich, 30, gear -> gear.currentByCutting(0));
        unchanged("pathAt(1, 1)", rich, 1, gear -> gear.pathAt(1, 1));
        unchanged("bestSize()", opened, 1, Switchgear::bestSize);
        unchanged("bestAt(0)", opened, 4, gear -> gear.bestAt(0));
        unchanged("valueByTrying()", opened, 129, Switchgear::valueByTrying);
        unchanged("sizeByTrying()", opened, 1, Switchgear::sizeByTrying);
    }

    private static void missing() {
        Net.OF_NODE.forEach((name, call) -> {
            unchanged(name + "(10)", UnchangedTest::rich, NO_SUCH, gear -> call.apply(gear, 10));
            unchanged(name + "(-1)", UnchangedTest::rich, NO_SUCH, gear -> call.apply(gear, -1));
        });
        Net.OF_LINE.forEach((name, call) -> {
            unchanged(name + "(12)", UnchangedTest::rich, NO_SUCH, gear -> call.apply(gear, 12));
            unchanged(name + "(-1)", UnchangedTest::rich, NO_SUCH, gear -> call.apply(gear, -1));
        });
    }
}
