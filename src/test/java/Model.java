import java.util.ArrayList;
import java.util.Collections;
import java.util.List;
import java.util.NoSuchElementException;

/**
 * The document once more, written for the tests from its terms alone and in another way than the
 * class: who is connected is a closure over pairs of nodes, a line's current comes from who is
 * nearer to the source, and the best plan is picked from the list of all plans.
 */
public final class Model {
    private static final class Line {
        int one;
        int other;
        int rating;
        boolean breaker;
        boolean closed;
        boolean locked;
        boolean faulty;
        int pickup;
        int multiplier;
        int instant;
    }

    private final List<int[]> nodes = new ArrayList<>(); // capacity (0 for a bus), load, priority
    private final List<Line> lines = new ArrayList<>();
    private int trips;

    // steps from node to node over closed lines, far above any number of nodes if there is no way
    private int[][] steps() {
        int size = nodes.size();
        int[][] far = new int[size][size];
        for (int a = 0; a < size; a++) {
            for (int b = 0; b < size; b++) {
                far[a][b] = a == b ? 0 : 1000;
            }
        }
        for (Line line : lines) {
            if (line.closed) {
                far[line.one][line.other] = 1;
                far[line.other][line.one] = 1;
            }
        }
        for (int via = 0; via < size; via++) {
            for (int a = 0; a < size; a++) {
                for (int b = 0; b < size; b++) {
                    far[a][b] = Math.min(far[a][b], far[a][via] + far[via][b]);
                }
            }
        }
        return far;
    }

    private static int source(List<int[]> nodes, int[][] far, int node) {
        for (int other = 0; other < nodes.size(); other++) {
            if (nodes.get(other)[0] > 0 && far[node][other] < 1000) {
                return other;
            }
        }
        return -1;
    }

    private int sourceFor(int node) {
        return source(nodes, steps(), node);
    }

    private int needNode(int node) {
        if (node < 0 || node >= nodes.size()) {
            throw new NoSuchElementException();
        }
        return node;
    }

    private Line needLine(int line) {
        if (line < 0 || line >= lines.size()) {
            throw new NoSuchElementException();
        }
        return lines.get(line);
    }

    private static void argument(boolean holds) {
        if (!holds) {
            throw new IllegalArgumentException();
        }
    }

    private static void state(boolean holds) {
        if (!holds) {
            throw new IllegalStateException();
        }
    }

    private static void supported(boolean holds) {
        if (!holds) {
            throw new UnsupportedOperationException();
        }
    }

    private static boolean within(int value, int least, int most) {
        return value >= least && value <= most;
    }

    public int addSource(int capacity) {
        argument(within(capacity, 1, 999));
        state(nodes.size() < 10);
        nodes.add(new int[] {capacity, 0, 0});
        return nodes.size() - 1;
    }

    public int addBus(int load, int priority) {
        argument(within(load, 0, 99) && within(priority, 0, 9));
        state(nodes.size() < 10);
        nodes.add(new int[] {0, load, priority});
        return nodes.size() - 1;
    }

    public int addLine(int one, int other, int rating, boolean isBreaker) {
        needNode(one);
        needNode(other);
        argument(one != other && within(rating, 1, 999));
        state(lines.size() < 12);
        Line line = new Line();
        line.one = one;
        line.other = other;
        line.rating = rating;
        line.breaker = isBreaker;
        line.pickup = rating;
        line.multiplier = 1;
        lines.add(line);
        return lines.size() - 1;
    }

    public int setLoad(int node, int load) {
        needNode(node);
        argument(within(load, 0, 99));
        supported(nodes.get(node)[0] == 0);
        int before = nodes.get(node)[1];
        nodes.get(node)[1] = load;
        boolean holds = firstAbove() == -1;
        for (int source = 0; source < nodes.size(); source++) {
            holds &= nodes.get(source)[0] == 0 || islandLoad(source) <= nodes.get(source)[0];
        }
        if (!holds) {
            nodes.get(node)[1] = before;
        }
        state(holds);
        return before;
    }

    private int firstAbove() {
        for (int line = 0; line < lines.size(); line++) {
            if (current(line) > lines.get(line).rating) {
                return line;
            }
        }
        return -1;
    }

    public int setRelay(int line, int pickup, int multiplier, int instant) {
        Line set = needLine(line);
        argument(within(pickup, 1, 999) && within(multiplier, 1, 10) && (instant == 0 || instant > pickup));
        supported(set.breaker);
        int before = set.pickup;
        set.pickup = pickup;
        set.multiplier = multiplier;
        set.instant = instant;
        return before;
    }

    public char canClose(int number) {
        Line line = needLine(number);
        if (line.closed) {
            return 'c';
        }
        if (line.locked) {
            return 'o';
        }
        int[][] before = steps();
        int oneSource = source(nodes, before, line.one);
        int otherSource = source(nodes, before, line.other);
        boolean feeds = (oneSource == -1) != (otherSource == -1);
        int dark = oneSource == -1 ? line.one : line.other;
        boolean faulty = line.faulty;
        int darkLoad = 0;
        if (feeds) {
            for (Line other : lines) {
                faulty |= other.closed && other.faulty && before[dark][other.one] < 1000;
            }
            darkLoad = islandLoad(dark);
        }
        if (faulty) {
            return 'f';
        }
        if (before[line.one][line.other] < 1000 || oneSource != -1 && otherSource != -1) {
            return 'r';
        }
        if (!line.breaker && feeds && darkLoad > 0) {
            return 'd';
        }
        int source = Math.max(oneSource, otherSource);
        if (feeds && islandLoad(source) + darkLoad > nodes.get(source)[0]) {
            return 's';
        }
        line.closed = true;
        boolean above = firstAbove() != -1;
        line.closed = false;
        return above ? 'l' : 'n';
    }

    public char canOpen(int number) {
        Line line = needLine(number);
        return !line.closed ? 'c' : line.breaker || current(number) == 0 ? 'n' : 'd';
    }

    public char close(int line) {
        char reason = canClose(line);
        if (reason == 'n') {
            lines.get(line).closed = true;
        }
        return reason;
    }

    public char open(int line) {
        char reason = canOpen(line);
        if (reason == 'n') {
            lines.get(line).closed = false;
        }
        return reason;
    }

    public int overloaded(int line) {
        state(canClose(line) == 'l');
        lines.get(line).closed = true;
        int first = firstAbove();
        lines.get(line).closed = false;
        return first;
    }

    public int fault(int number) {
        Line line = needLine(number);
        state(!line.faulty);
        int tripped = wouldTrip(number);
        int source = sourceFor(line.one);
        line.faulty = true;
        for (int other = 0; other < lines.size(); other++) {
            Line opened = lines.get(other);
            boolean atSource = opened.closed && (opened.one == source || opened.other == source);
            if (tripped == other || tripped == -2 && atSource) {
                opened.closed = false;
                opened.locked = true;
            }
        }
        trips += tripped >= 0 ? 1 : 0;
        return tripped;
    }

    public boolean repair(int number) {
        Line line = needLine(number);
        state(line.faulty);
        line.faulty = false;
        return line.locked;
    }

    public int reset(int number) {
        Line line = needLine(number);
        supported(!line.faulty);
        state(line.locked);
        line.locked = false;
        int count = 0;
        for (Line other : lines) {
            count += other.locked ? 1 : 0;
        }
        return count;
    }

    public int nodes() {
        return nodes.size();
    }

    public int lines() {
        return lines.size();
    }

    public boolean isSource(int node) {
        return nodes.get(needNode(node))[0] > 0;
    }

    public int loadOf(int node) {
        return nodes.get(needNode(node))[1];
    }

    public int weight(int node) {
        supported(!isSource(node));
        return nodes.get(node)[1] * nodes.get(node)[2];
    }

    public boolean isClosed(int line) {
        return needLine(line).closed;
    }

    public boolean isLocked(int line) {
        return needLine(line).locked;
    }

    public boolean hasFault(int line) {
        return needLine(line).faulty;
    }

    public int islandOf(int node) {
        needNode(node);
        int[][] far = steps();
        int lowest = 0;
        while (far[node][lowest] >= 1000) {
            lowest++;
        }
        return lowest;
    }

    public int islandByRounds(int node) {
        return islandOf(node);
    }

    public int islands() {
        List<Integer> lowest = new ArrayList<>();
        for (int node = 0; node < nodes.size(); node++) {
            if (!lowest.contains(islandOf(node))) {
                lowest.add(islandOf(node));
            }
        }
        return lowest.size();
    }

    public boolean isLive(int node) {
        return sourceFor(needNode(node)) != -1;
    }

    public int sourceOf(int node) {
        state(isLive(node));
        return sourceFor(node);
    }

    public int islandLoad(int node) {
        needNode(node);
        int[][] far = steps();
        int sum = 0;
        for (int other = 0; other < nodes.size(); other++) {
            sum += far[node][other] < 1000 ? nodes.get(other)[1] : 0;
        }
        return sum;
    }

    public int current(int number) {
        Line line = needLine(number);
        int[][] far = steps();
        int source = source(nodes, far, line.one);
        if (!line.closed || source == -1) {
            return 0;
        }
        boolean oneIsNearer = far[source][line.one] < far[source][line.other];
        int near = oneIsNearer ? line.one : line.other;
        int end = oneIsNearer ? line.other : line.one;
        int sum = 0;
        for (int node = 0; node < nodes.size(); node++) {
            sum += far[node][end] < 1000 && far[node][end] < far[node][near] ? nodes.get(node)[1] : 0;
        }
        return sum;
    }

    public int currentByCutting(int line) {
        return current(line);
    }

    // the lines both of whose ends lie on the way from the source to the farther end
    private List<Integer> path(int number) {
        Line line = needLine(number);
        int[][] far = steps();
        int source = source(nodes, far, line.one);
        state(line.closed && source != -1);
        int end = far[source][line.one] < far[source][line.other] ? line.other : line.one;
        List<Integer> path = new ArrayList<>();
        for (int step = 1; step <= far[source][end]; step++) {
            for (int other = 0; other < lines.size(); other++) {
                Line on = lines.get(other);
                boolean fits = on.closed && Math.max(far[source][on.one], far[source][on.other]) == step
                    && far[source][on.one] + far[on.one][end] == far[source][end]
                    && far[source][on.other] + far[on.other][end] == far[source][end];
                if (fits) {
                    path.add(other);
                }
            }
        }
        return path;
    }

    public int distance(int line) {
        return path(line).size();
    }

    public int pathAt(int line, int index) {
        List<Integer> path = path(line);
        if (!within(index, 0, path.size() - 1)) {
            throw new IndexOutOfBoundsException();
        }
        return path.get(index);
    }

    public int faultCurrent(int line) {
        int distance = distance(line);
        return nodes.get(sourceFor(lines.get(line).one))[0] * 10 / distance;
    }

    public int tripTime(int number, int current) {
        Line line = needLine(number);
        argument(within(current, 1, 99999));
        supported(line.breaker);
        if (current <= line.pickup) {
            return -1;
        }
        boolean atOnce = line.instant > 0 && current >= line.instant;
        return atOnce ? 1 : 2 + 10 * line.pickup * line.multiplier / (current - line.pickup);
    }

    public int wouldTrip(int number) {
        Line line = needLine(number);
        if (!line.closed || sourceFor(line.one) == -1) {
            return -1;
        }
        List<Integer> fromFar = path(number);
        Collections.reverse(fromFar);
        int tripped = -2;
        for (int on : fromFar) {
            int time = timeOf(on, number);
            if (time != -1 && (tripped == -2 || time < timeOf(tripped, number))) {
                tripped = on;
            }
        }
        return tripped;
    }

    private int timeOf(int relay, int faulty) {
        return lines.get(relay).breaker ? tripTime(relay, faultCurrent(faulty)) : -1;
    }

    public boolean isSelective(int line) {
        return wouldTrip(line) == line;
    }

    public int margin(int line) {
        state(isSelective(line));
        List<Integer> others = new ArrayList<>();
        for (int on : path(line)) {
            if (on != line && timeOf(on, line) != -1) {
                others.add(timeOf(on, line));
            }
        }
        supported(!others.isEmpty());
        return Collections.min(others) - timeOf(line, line);
    }

    public int trips() {
        return trips;
    }

    private int allLoads() {
        return nodes.stream().mapToInt(node -> node[1]).sum();
    }

    public int darkLoad() {
        int sum = 0;
        for (int node = 0; node < nodes.size(); node++) {
            sum += isLive(node) ? 0 : nodes.get(node)[1];
        }
        return sum;
    }

    private List<Integer> ofPlans() {
        List<Integer> found = new ArrayList<>();
        for (int number = 0; number < lines.size(); number++) {
            Line line = lines.get(number);
            if (line.breaker && !line.closed && !line.locked && !line.faulty) {
                found.add(number);
            }
        }
        return found;
    }

    private int liveWeight() {
        int[][] far = steps();
        int sum = 0;
        for (int node = 0; node < nodes.size(); node++) {
            sum += source(nodes, far, node) == -1 ? 0 : nodes.get(node)[1] * nodes.get(node)[2];
        }
        return sum;
    }

    /** The best plan with its value as the last element. */
    private List<Integer> best() {
        List<Integer> candidates = ofPlans();
        List<Integer> best = null;
        for (int set = 0; set < 1 << candidates.size(); set++) {
            List<Integer> plan = new ArrayList<>();
            boolean works = true;
            for (int at = 0; at < candidates.size() && works; at++) {
                if ((set & 1 << at) != 0) {
                    works = close(candidates.get(at)) == 'n';
                    if (works) {
                        plan.add(candidates.get(at));
                    }
                }
            }
            int value = liveWeight();
            for (int line : plan) {
                lines.get(line).closed = false;
            }
            plan.add(value);
            if (works && (best == null || beats(plan, best))) {
                best = plan;
            }
        }
        return best;
    }

    private static boolean beats(List<Integer> plan, List<Integer> other) {
        int value = plan.get(plan.size() - 1) - other.get(other.size() - 1);
        if (value != 0) {
            return value > 0;
        }
        if (plan.size() != other.size()) {
            return plan.size() < other.size();
        }
        for (int at = 0; at < plan.size(); at++) {
            if (!plan.get(at).equals(other.get(at))) {
                return plan.get(at) < other.get(at);
            }
        }
        return false;
    }

    public int bestValue() {
        List<Integer> best = best();
        return best.get(best.size() - 1);
    }

    public int bestSize() {
        return best().size() - 1;
    }

    public int bestAt(int index) {
        List<Integer> best = best();
        if (!within(index, 0, best.size() - 2)) {
            throw new IndexOutOfBoundsException();
        }
        return best.get(index);
    }

    public int valueByTrying() {
        supported(ofPlans().size() <= 9);
        return bestValue();
    }

    public int sizeByTrying() {
        supported(ofPlans().size() <= 9);
        return bestSize();
    }

    public int restore() {
        List<Integer> best = best();
        for (int at = 0; at < best.size() - 1; at++) {
            lines.get(best.get(at)).closed = true;
        }
        return best.size() - 1;
    }

    public float liveShare() {
        if (allLoads() == 0) {
            throw new ArithmeticException();
        }
        return (float) (allLoads() - darkLoad()) / (float) allLoads();
    }

    public double meanCurrent() {
        int count = 0;
        int sum = 0;
        for (int line = 0; line < lines.size(); line++) {
            if (lines.get(line).closed && isLive(lines.get(line).one)) {
                count++;
                sum += current(line);
            }
        }
        if (count == 0) {
            throw new ArithmeticException();
        }
        return (double) sum / (double) count;
    }
}
