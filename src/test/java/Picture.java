import java.util.ArrayList;
import java.util.List;
import java.util.function.Function;

/** All that a network answers: to every question, and then to a row of changes that bring out what is hidden. */
final class Picture {
    private final Switchgear gear;
    private final List<String> answers = new ArrayList<>();

    private Picture(Switchgear gear) {
        this.gear = gear;
    }

    /** Not more than some 450 calls, so that some 60 are left for what comes before. */
    static List<String> of(Switchgear gear) {
        Picture picture = new Picture(gear);
        picture.sums();
        int nodes = gear.nodes();
        int lines = gear.lines();
        for (int node = 0; node < nodes; node++) {
            picture.node(node);
        }
        for (int line = 0; line < lines; line++) {
            picture.line(line);
        }
        picture.changes(nodes, lines);
        return picture.answers;
    }

    /** What a call answers: the answer itself, or the class of what it throws. */
    static Object answer(Switchgear gear, Function<Switchgear, Object> call) {
        try {
            return call.apply(gear);
        } catch (RuntimeException e) {
            return e.getClass();
        }
    }

    private void ask(String name, Function<Switchgear, Object> call) {
        answers.add(name + " = " + answer(gear, call));
    }

    private void sums() {
        ask("nodes()", Switchgear::nodes);
        ask("lines()", Switchgear::lines);
        ask("islands()", Switchgear::islands);
        ask("trips()", Switchgear::trips);
        ask("darkLoad()", Switchgear::darkLoad);
        ask("liveShare()", Switchgear::liveShare);
        ask("meanCurrent()", Switchgear::meanCurrent);
        ask("bestValue()", Switchgear::bestValue);
        ask("bestSize()", Switchgear::bestSize);
        for (int index = 0; index < 4; index++) {
            int which = index;
            ask("bestAt(" + index + ")", asked -> asked.bestAt(which));
        }
        ask("valueByTrying()", Switchgear::valueByTrying);
        ask("sizeByTrying()", Switchgear::sizeByTrying);
    }

    private void node(int node) {
        ask("isSource(" + node + ")", asked -> asked.isSource(node));
        ask("loadOf(" + node + ")", asked -> asked.loadOf(node));
        ask("weight(" + node + ")", asked -> asked.weight(node));
        ask("islandOf(" + node + ")", asked -> asked.islandOf(node));
        ask("islandByRounds(" + node + ")", asked -> asked.islandByRounds(node));
        ask("sourceOf(" + node + ")", asked -> asked.sourceOf(node));
        ask("islandLoad(" + node + ")", asked -> asked.islandLoad(node));
    }

    private void line(int line) {
        ask("isClosed(" + line + ")", asked -> asked.isClosed(line));
        ask("isLocked(" + line + ")", asked -> asked.isLocked(line));
        ask("hasFault(" + line + ")", asked -> asked.hasFault(line));
        ask("canClose(" + line + ")", asked -> asked.canClose(line));
        ask("canOpen(" + line + ")", asked -> asked.canOpen(line));
        ask("overloaded(" + line + ")", asked -> asked.overloaded(line));
        ask("current(" + line + ")", asked -> asked.current(line));
        ask("currentByCutting(" + line + ")", asked -> asked.currentByCutting(line));
        ask("faultCurrent(" + line + ")", asked -> asked.faultCurrent(line));
        ask("pathAt(" + line + ", 0)", asked -> asked.pathAt(line, 0));
        ask("pathAt(" + line + ", 1)", asked -> asked.pathAt(line, 1));
        ask("wouldTrip(" + line + ")", asked -> asked.wouldTrip(line));
        ask("margin(" + line + ")", asked -> asked.margin(line));
        for (int current : new int[] {50, 100, 1000}) {
            ask("tripTime(" + line + ", " + current + ")", asked -> asked.tripTime(line, current));
        }
    }

    /** Ends all faults and lockouts, closes what can be closed, sets relays, adds one more of each. */
    private void changes(int nodes, int lines) {
        for (int line = 0; line < lines; line++) {
            int which = line;
            ask("repair(" + line + ")", asked -> asked.repair(which));
            ask("reset(" + line + ")", asked -> asked.reset(which));
        }
        for (int line = lines - 1; line >= 0; line--) {
            int which = line;
            ask("close(" + line + ")", asked -> asked.close(which));
            ask("current(" + line + ")", asked -> asked.current(which));
            ask("faultCurrent(" + line + ")", asked -> asked.faultCurrent(which));
            ask("setRelay(" + line + ")", asked -> asked.setRelay(which, 1, 1, 0));
        }
        for (int node = 0; node < nodes; node++) {
            int which = node;
            ask("setLoad(" + node + ")", asked -> asked.setLoad(which, 3));
        }
        ask("addBus", asked -> asked.addBus(1, 1));
        ask("addLine", asked -> asked.addLine(0, nodes - 1, 1, true));
        ask("restore()", Switchgear::restore);
        ask("trips()", Switchgear::trips);
    }
}
