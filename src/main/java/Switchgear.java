import java.util.NoSuchElementException;

/**
 * A medium-voltage network with circuit breakers and overcurrent protection.
 *
 * <p>Inside, a set of nodes or of lines is an int with one bit for each number. What is asked
 * about the network takes the set of closed lines as an argument, so that a switching and a
 * plan are judged before anything is switched.
 */
public final class Switchgear {
    private static final int MAX_NODES = 10;
    private static final int MAX_LINES = 12;
    private static final int MAX_CAPACITY = 999;
    private static final int MAX_LOAD = 99;
    private static final int MAX_PRIORITY = 9;
    private static final int MAX_RATING = 999;
    private static final int MAX_PICKUP = 999;
    private static final int MAX_MULTIPLIER = 10;
    private static final int MAX_CURRENT = 99999;
    private static final int MAX_TRIED_LINES = 9;

    private static final int NONE = -1;
    private static final int ALL_AT_SOURCE = -2;

    private final Grid grid;
    private final Feeder feeder;
    private final Switches switches;
    private final Protection protection;
    private final Planner planner;
    private int tripCount;

    public Switchgear() {
        grid = new Grid();
        feeder = new Feeder(grid);
        switches = new Switches(grid, feeder);
        protection = new Protection(grid, feeder);
        planner = new Planner(grid, switches);
    }

    // ---- building ----

    public int addSource(int capacity) throws IllegalArgumentException, IllegalStateException {
        if (capacity < 1 || capacity > MAX_CAPACITY) {
            throw new IllegalArgumentException("a capacity is from 1 to 999");
        }
        return added(grid.addNode(capacity, 0, 0));
    }

    public int addBus(int load, int priority) throws IllegalArgumentException, IllegalStateException {
        needLoad(load);
        if (priority < 0 || priority > MAX_PRIORITY) {
            throw new IllegalArgumentException("a priority is from 0 to 9");
        }
        return added(grid.addNode(0, load, priority));
    }

    public int addLine(int one, int other, int rating, boolean isBreaker)
            throws NoSuchElementException, IllegalArgumentException, IllegalStateException {
        needNode(one);
        needNode(other);
        if (one == other) {
            throw new IllegalArgumentException("a line has two different ends");
        }
        if (rating < 1 || rating > MAX_RATING) {
            throw new IllegalArgumentException("a rating is from 1 to 999");
        }
        int line = added(grid.addLineBetween(one, other, rating, isBreaker));
        protection.setUp(line, rating, 1, 0);
        return line;
    }

    public int setLoad(int node, int load)
            throws NoSuchElementException, IllegalArgumentException, UnsupportedOperationException,
            IllegalStateException {
        needNode(node);
        needLoad(load);
        needBus(node);
        int before = grid.loadAt(node);
        grid.putLoad(node, load);
        if (!switches.keepLimits()) {
            grid.putLoad(node, before);
            throw new IllegalStateException("the source or a line cannot carry this load");
        }
        return before;
    }

    public int setRelay(int line, int pickup, int multiplier, int instant)
            throws NoSuchElementException, IllegalArgumentException, UnsupportedOperationException {
        needLine(line);
        if (pickup < 1 || pickup > MAX_PICKUP) {
            throw new IllegalArgumentException("a pickup is from 1 to 999");
        }
        if (multiplier < 1 || multiplier > MAX_MULTIPLIER) {
            throw new IllegalArgumentException("a multiplier is from 1 to 10");
        }
        if (instant != 0 && instant <= pickup) {
            throw new IllegalArgumentException("an instant step is 0 or greater than the pickup");
        }
        needBreaker(line);
        int before = protection.pickupAt(line);
        protection.setUp(line, pickup, multiplier, instant);
        return before;
    }

    // ---- switching ----

    public char close(int line) throws NoSuchElementException {
        needLine(line);
        char reason = switches.closeReason(line, switches.closed);
        if (reason == 'n') {
            switches.closeAll(bit(line));
        }
        return reason;
    }

    public char open(int line) throws NoSuchElementException {
        needLine(line);
        char reason = switches.openReason(line);
        if (reason == 'n') {
            switches.openAll(bit(line));
        }
        return reason;
    }

    public char canClose(int line) throws NoSuchElementException {
        needLine(line);
        return switches.closeReason(line, switches.closed);
    }

    public char canOpen(int line) throws NoSuchElementException {
        needLine(line);
        return switches.openReason(line);
    }

    public int overloaded(int line) throws NoSuchElementException, IllegalStateException {
        needLine(line);
        if (switches.closeReason(line, switches.closed) != 'l') {
            throw new IllegalStateException("closing the line is not refused with the reason 'l'");
        }
        return feeder.firstOverloaded(switches.closed | bit(line));
    }

    // ---- faults ----

    public int fault(int line) throws NoSuchElementException, IllegalStateException {
        needLine(line);
        if (has(switches.faulty, line)) {
            throw new IllegalStateException("the line has a fault");
        }
        int tripped = protection.answerTo(line, switches.closed);
        switches.faulty |= bit(line);
        if (tripped == ALL_AT_SOURCE) {
            int source = grid.sourceOfLine(line, switches.closed);
            switches.lockOut(grid.linesAt(bit(source), switches.closed));
        } else if (tripped != NONE) {
            switches.lockOut(bit(tripped));
            tripCount++;
        }
        return tripped;
    }

    public boolean repair(int line) throws NoSuchElementException, IllegalStateException {
        needLine(line);
        if (!has(switches.faulty, line)) {
            throw new IllegalStateException("the line has no fault");
        }
        switches.faulty &= ~bit(line);
        return has(switches.locked, line);
    }

    public int reset(int line)
            throws NoSuchElementException, UnsupportedOperationException, IllegalStateException {
        needLine(line);
        if (has(switches.faulty, line)) {
            throw new UnsupportedOperationException("the line has a fault");
        }
        if (!has(switches.locked, line)) {
            throw new IllegalStateException("the line is not locked out");
        }
        switches.locked &= ~bit(line);
        return Integer.bitCount(switches.locked);
    }

    // ---- nodes and lines ----

    public int nodes() {
        return grid.nodeCount;
    }

    public int lines() {
        return grid.lineCount;
    }

    public boolean isSource(int node) throws NoSuchElementException {
        needNode(node);
        return has(grid.sources, node);
    }

    public int loadOf(int node) throws NoSuchElementException {
        needNode(node);
        return grid.loadAt(node);
    }

    public int weight(int node) throws NoSuchElementException, UnsupportedOperationException {
        needNode(node);
        needBus(node);
        return grid.weightIn(bit(node));
    }

    public boolean isClosed(int line) throws NoSuchElementException {
        needLine(line);
        return has(switches.closed, line);
    }

    public boolean isLocked(int line) throws NoSuchElementException {
        needLine(line);
        return has(switches.locked, line);
    }

    public boolean hasFault(int line) throws NoSuchElementException {
        needLine(line);
        return has(switches.faulty, line);
    }

    // ---- islands ----

    public int islandOf(int node) throws NoSuchElementException {
        needNode(node);
        return lowestIn(islandAt(node));
    }

    public int islandByRounds(int node) throws NoSuchElementException {
        needNode(node);
        return lowestIn(grid.islandGrownFrom(node, switches.closed));
    }

    public int islands() {
        int count = 0;
        for (int node = 0; node < grid.nodeCount; node++) {
            if (lowestIn(islandAt(node)) == node) {
                count++;
            }
        }
        return count;
    }

    public boolean isLive(int node) throws NoSuchElementException {
        needNode(node);
        return grid.sourceIn(islandAt(node)) != NONE;
    }

    public int sourceOf(int node) throws NoSuchElementException, IllegalStateException {
        needNode(node);
        int source = grid.sourceIn(islandAt(node));
        if (source == NONE) {
            throw new IllegalStateException("the island is dark");
        }
        return source;
    }

    public int islandLoad(int node) throws NoSuchElementException {
        needNode(node);
        return grid.loadIn(islandAt(node));
    }

    // ---- currents and paths ----

    public int current(int line) throws NoSuchElementException {
        needLine(line);
        return feeder.currentIn(line, switches.closed);
    }

    public int currentByCutting(int line) throws NoSuchElementException {
        needLine(line);
        return grid.loadCutOffBy(line, switches.closed);
    }

    public int distance(int line) throws NoSuchElementException, IllegalStateException {
        needLine(line);
        return lengthOfPathTo(line);
    }

    public int pathAt(int line, int index)
            throws NoSuchElementException, IllegalStateException, IndexOutOfBoundsException {
        needLine(line);
        int length = lengthOfPathTo(line);
        if (index < 0 || index >= length) {
            throw new IndexOutOfBoundsException("the path has no line with this index");
        }
        return feeder.lineOnPath(index);
    }

    // ---- relays ----

    public int faultCurrent(int line) throws NoSuchElementException, IllegalStateException {
        needLine(line);
        int length = lengthOfPathTo(line);
        return protection.currentOfFault(line, length, switches.closed);
    }

    public int tripTime(int line, int current)
            throws NoSuchElementException, IllegalArgumentException, UnsupportedOperationException {
        needLine(line);
        if (current < 1 || current > MAX_CURRENT) {
            throw new IllegalArgumentException("a current is from 1 to 99999");
        }
        needBreaker(line);
        return protection.timeFor(line, current);
    }

    public int wouldTrip(int line) throws NoSuchElementException {
        needLine(line);
        return protection.answerTo(line, switches.closed);
    }

    public boolean isSelective(int line) throws NoSuchElementException {
        needLine(line);
        return protection.answerTo(line, switches.closed) == line;
    }

    public int margin(int line)
            throws NoSuchElementException, IllegalStateException, UnsupportedOperationException {
        needLine(line);
        if (protection.answerTo(line, switches.closed) != line) {
            throw new IllegalStateException("the line is not protected selectively");
        }
        int lead = protection.leadOf(line, switches.closed);
        if (lead == NONE) {
            throw new UnsupportedOperationException("no other relay on the path trips");
        }
        return lead;
    }

    public int trips() {
        return tripCount;
    }

    // ---- restoration ----

    public int darkLoad() {
        return grid.loadIn(grid.allNodes()) - grid.loadIn(liveNodes());
    }

    public int bestValue() {
        planner.findBest();
        return planner.bestValue;
    }

    public int bestSize() {
        planner.findBest();
        return Integer.bitCount(planner.bestPlan);
    }

    public int bestAt(int index) throws IndexOutOfBoundsException {
        planner.findBest();
        if (index < 0 || index >= Integer.bitCount(planner.bestPlan)) {
            throw new IndexOutOfBoundsException("the best plan has no line with this index");
        }
        return memberAt(planner.bestPlan, index);
    }

    public int valueByTrying() throws UnsupportedOperationException {
        needFewLinesToTry();
        planner.tryAllSets();
        return planner.bestValue;
    }

    public int sizeByTrying() throws UnsupportedOperationException {
        needFewLinesToTry();
        planner.tryAllSets();
        return Integer.bitCount(planner.bestPlan);
    }

    public int restore() {
        planner.findBest();
        switches.closeAll(planner.bestPlan);
        return Integer.bitCount(planner.bestPlan);
    }

    // ---- shares and means ----

    public float liveShare() throws ArithmeticException {
        int all = grid.loadIn(grid.allNodes());
        if (all == 0) {
            throw new ArithmeticException("the sum of all loads is 0");
        }
        return (float) grid.loadIn(liveNodes()) / (float) all;
    }

    public double meanCurrent() throws ArithmeticException {
        int lines = grid.linesAt(liveNodes(), switches.closed);
        int count = Integer.bitCount(lines);
        if (count == 0) {
            throw new ArithmeticException("no closed line is in a live island");
        }
        return (double) feeder.sumOfCurrents(switches.closed) / (double) count;
    }

    // ---- what several of the calls above need ----

    private void needNode(int node) throws NoSuchElementException {
        if (!grid.isNode(node)) {
            throw new NoSuchElementException("there is no such node");
        }
    }

    private void needLine(int line) throws NoSuchElementException {
        if (!grid.isLine(line)) {
            throw new NoSuchElementException("there is no such line");
        }
    }

    private void needBus(int node) throws UnsupportedOperationException {
        if (has(grid.sources, node)) {
            throw new UnsupportedOperationException("the node is a source");
        }
    }

    private void needBreaker(int line) throws UnsupportedOperationException {
        if (!has(grid.breakers, line)) {
            throw new UnsupportedOperationException("the line is not switched by a breaker");
        }
    }

    private void needFewLinesToTry() throws UnsupportedOperationException {
        if (Integer.bitCount(switches.ofPlans()) > MAX_TRIED_LINES) {
            throw new UnsupportedOperationException("plans can consist of more than 9 lines");
        }
    }

    private static void needLoad(int load) throws IllegalArgumentException {
        if (load < 0 || load > MAX_LOAD) {
            throw new IllegalArgumentException("a load is from 0 to 99");
        }
    }

    private static int added(int number) throws IllegalStateException {
        if (number == NONE) {
            throw new IllegalStateException("there is no room for one more");
        }
        return number;
    }

    private int lengthOfPathTo(int line) throws IllegalStateException {
        int length = feeder.layPath(line, switches.closed);
        if (length == 0) {
            throw new IllegalStateException("it is not a closed line of a live island");
        }
        return length;
    }

    private int islandAt(int node) {
        return grid.islandAround(node, switches.closed);
    }

    private int liveNodes() {
        return grid.liveWith(switches.closed);
    }

    // ---- sets ----

    private static int bit(int number) {
        return 1 << number;
    }

    private static boolean has(int set, int number) {
        return (set >> number & 1) != 0;
    }

    private static int lowestIn(int set) {
        return memberAt(set, 0);
    }

    private static int memberAt(int set, int index) {
        int before = 0;
        for (int number = 0; number < MAX_LINES; number++) {
            if ((set >> number & 1) != 0) {
                if (before == index) {
                    return number;
                }
                before++;
            }
        }
        return NONE;
    }

    /** What is built, and the islands that a set of closed lines makes of it. */
    private static final class Grid {
        private final int[] capacity = new int[MAX_NODES];
        private final int[] load = new int[MAX_NODES];
        private final int[] priority = new int[MAX_NODES];
        private final int[] one = new int[MAX_LINES];
        private final int[] other = new int[MAX_LINES];
        private final int[] rating = new int[MAX_LINES];
        private int nodeCount;
        private int lineCount;
        private int sources;
        private int breakers;

        /** Answers NONE if there is no room; a bus is a node without a capacity. */
        int addNode(int itsCapacity, int itsLoad, int itsPriority) {
            int node = nodeCount;
            if (node >= MAX_NODES) {
                return NONE;
            }
            capacity[node] = itsCapacity;
            load[node] = itsLoad;
            priority[node] = itsPriority;
            if (itsCapacity > 0) {
                sources |= bit(node);
            }
            nodeCount = node + 1;
            return node;
        }

        /** Answers NONE if there is no room. */
        int addLineBetween(int itsOne, int itsOther, int itsRating, boolean byBreaker) {
            int line = lineCount;
            if (line >= MAX_LINES) {
                return NONE;
            }
            one[line] = itsOne;
            other[line] = itsOther;
            rating[line] = itsRating;
            if (byBreaker) {
                breakers |= bit(line);
            }
            lineCount = line + 1;
            return line;
        }

        boolean isNode(int node) {
            return node >= 0 && node < nodeCount;
        }

        boolean isLine(int line) {
            return line >= 0 && line < lineCount;
        }

        int allNodes() {
            return bit(nodeCount) - 1;
        }

        int loadAt(int node) {
            return node >= 0 && node < nodeCount ? load[node] : 0;
        }

        void putLoad(int node, int itsLoad) {
            if (isNode(node)) {
                load[node] = itsLoad;
            }
        }

        int capacityAt(int node) {
            return isNode(node) ? capacity[node] : 0;
        }

        int ratingAt(int line) {
            return isLine(line) ? rating[line] : 0;
        }

        int loadIn(int nodes) {
            int sum = 0;
            for (int node = 0; node < nodeCount; node++) {
                if (has(nodes, node)) {
                    sum += load[node];
                }
            }
            return sum;
        }

        int weightIn(int nodes) {
            int sum = 0;
            for (int node = 0; node < nodeCount; node++) {
                if (has(nodes, node)) {
                    sum += load[node] * priority[node];
                }
            }
            return sum;
        }

        int oneEnd(int line) {
            return isLine(line) ? one[line] : NONE;
        }

        /** The other end of a line at a node, or NONE if the line does not end there. */
        int acrossFrom(int node, int line) {
            if (line < 0 || line >= lineCount) {
                return NONE;
            }
            if (one[line] == node) {
                return other[line];
            }
            return other[line] == node ? one[line] : NONE;
        }

        /** The set of those of some lines that end at one of the nodes. */
        int linesAt(int nodes, int lines) {
            int found = 0;
            for (int line = 0; line < lineCount; line++) {
                if (has(lines, line) && (has(nodes, one[line]) || has(nodes, other[line]))) {
                    found |= bit(line);
                }
            }
            return found;
        }

        /** The nodes of the island of a node, found by going from node to node. */
        int islandAround(int node, int closed) {
            int island = bit(node);
            int waiting = island;
            for (int step = 0; step < MAX_NODES && waiting != 0; step++) {
                int here = lowestIn(waiting);
                int next = neighbours(here, closed) & ~island;
                island |= next;
                waiting = waiting & ~bit(here) | next;
            }
            return island;
        }

        private int neighbours(int node, int closed) {
            int found = 0;
            for (int line = 0; line < lineCount; line++) {
                int far = has(closed, line) ? acrossFrom(node, line) : NONE;
                if (far != NONE) {
                    found |= bit(far);
                }
            }
            return found;
        }

        /** The same as islandAround, found by rounds over all closed lines until nothing changes. */
        int islandGrownFrom(int node, int closed) {
            int island = bit(node);
            boolean changed = true;
            for (int round = 0; round < MAX_NODES && changed; round++) {
                int before = island;
                for (int line = 0; line < lineCount; line++) {
                    if (has(closed, line) && (has(island, one[line]) || has(island, other[line]))) {
                        island |= bit(one[line]) | bit(other[line]);
                    }
                }
                changed = island != before;
            }
            return island;
        }

        int sourceIn(int nodes) {
            return lowestIn(nodes & sources);
        }

        /** The source that feeds a closed line, or NONE if its island is dark. */
        int sourceOfLine(int line, int closed) {
            return sourceIn(islandAround(oneEnd(line), closed));
        }

        /** Whether a live island has more load than its source has capacity. */
        boolean asksTooMuch(int island) {
            return loadIn(island) > capacityAt(sourceIn(island));
        }

        int liveWith(int closed) {
            int live = 0;
            for (int node = 0; node < nodeCount; node++) {
                if (has(sources, node)) {
                    live |= islandAround(node, closed);
                }
            }
            return live;
        }

        int loadCutOffBy(int line, int closed) {
            if (!has(closed, line) || sourceOfLine(line, closed) == NONE) {
                return 0;
            }
            int end = oneEnd(line);
            int side = islandAround(end, closed & ~bit(line));
            if (sourceIn(side) != NONE) {
                side = islandAround(acrossFrom(end, line), closed & ~bit(line));
            }
            return loadIn(side);
        }
    }

    /** Goes from the sources over closed lines to the ends. */
    private static final class Feeder {
        private final Grid grid;
        private final int[] current = new int[MAX_LINES];
        private final int[] path = new int[MAX_NODES];

        Feeder(Grid itsGrid) {
            grid = itsGrid;
        }

        int currentIn(int line, int closed) {
            measure(closed);
            return grid.isLine(line) ? current[line] : 0;
        }

        int sumOfCurrents(int closed) {
            measure(closed);
            int sum = 0;
            for (int line = 0; line < MAX_LINES; line++) {
                sum += current[line];
            }
            return sum;
        }

        int firstOverloaded(int closed) {
            measure(closed);
            for (int line = 0; line < MAX_LINES; line++) {
                if (current[line] > grid.ratingAt(line)) {
                    return line;
                }
            }
            return NONE;
        }

        private void measure(int closed) {
            for (int line = 0; line < MAX_LINES; line++) {
                current[line] = 0;
            }
            for (int node = 0; node < grid.nodeCount; node++) {
                if (has(grid.sources, node)) {
                    drawAt(node, NONE, closed, 0);
                }
            }
        }

        /** What a node draws with all that is fed over it; no radial network is deeper than its nodes. */
        private int drawAt(int node, int cameBy, int closed, int depth) {
            if (depth >= MAX_NODES) {
                return 0;
            }
            int drawn = grid.loadAt(node);
            for (int line = 0; line < MAX_LINES; line++) {
                int far = line == cameBy || !has(closed, line) ? NONE : grid.acrossFrom(node, line);
                if (far != NONE) {
                    current[line] = drawAt(far, line, closed, depth + 1);
                    drawn += current[line];
                }
            }
            return drawn;
        }

        /** Answers the length of the path to a line, 0 if it is not a closed line of a live island. */
        int layPath(int target, int closed) {
            int length = 0;
            for (int node = 0; node < grid.nodeCount && length == 0; node++) {
                if (has(grid.sources, node)) {
                    length = follow(node, NONE, target, closed, 0);
                }
            }
            return length;
        }

        private int follow(int node, int cameBy, int target, int closed, int depth) {
            if (depth >= MAX_NODES) {
                return 0;
            }
            for (int line = 0; line < MAX_LINES; line++) {
                int far = line == cameBy || !has(closed, line) ? NONE : grid.acrossFrom(node, line);
                if (far != NONE) {
                    path[depth] = line;
                    int length = line == target ? depth + 1 : follow(far, line, target, closed, depth + 1);
                    if (length > 0) {
                        return length;
                    }
                }
            }
            return 0;
        }

        /** A line of the path that was laid last. */
        int lineOnPath(int index) {
            return index >= 0 && index < MAX_NODES ? path[index] : NONE;
        }
    }

    /** What is closed, locked out and faulty, and the rules of switching. */
    private static final class Switches {
        private final Grid grid;
        private final Feeder feeder;
        private int closed;
        private int locked;
        private int faulty;

        Switches(Grid itsGrid, Feeder itsFeeder) {
            grid = itsGrid;
            feeder = itsFeeder;
        }

        void closeAll(int lines) {
            closed |= lines;
        }

        void openAll(int lines) {
            closed &= ~lines;
        }

        void lockOut(int lines) {
            closed &= ~lines;
            locked |= lines;
        }

        /** The set of the lines of which plans can consist. */
        int ofPlans() {
            return grid.breakers & ~(closed | locked | faulty);
        }

        char openReason(int line) {
            if (!has(closed, line)) {
                return 'c';
            }
            return has(grid.breakers, line) || feeder.currentIn(line, closed) == 0 ? 'n' : 'd';
        }

        /** Why a line cannot be closed when the given lines are closed, which may be others than now. */
        char closeReason(int line, int closedThen) {
            if (has(closedThen, line)) {
                return 'c';
            }
            if (has(locked, line)) {
                return 'o';
            }
            int end = grid.oneEnd(line);
            int here = grid.islandAround(end, closedThen);
            int there = grid.islandAround(grid.acrossFrom(end, line), closedThen);
            boolean hereLive = grid.sourceIn(here) != NONE;
            boolean thereLive = grid.sourceIn(there) != NONE;
            int fed = hereLive == thereLive ? 0 : hereLive ? there : here;
            if (has(faulty, line) || (grid.linesAt(fed, closedThen) & faulty) != 0) {
                return 'f';
            }
            if (here == there || hereLive && thereLive) {
                return 'r';
            }
            if (!has(grid.breakers, line) && grid.loadIn(fed) > 0) {
                return 'd';
            }
            if (fed == 0) {
                return 'n';
            }
            if (grid.asksTooMuch(here | there)) {
                return 's';
            }
            return feeder.firstOverloaded(closedThen | bit(line)) == NONE ? 'n' : 'l';
        }

        /** Whether no live island asks too much of its source or of a line. */
        boolean keepLimits() {
            for (int node = 0; node < grid.nodeCount; node++) {
                if (has(grid.sources, node) && grid.asksTooMuch(grid.islandAround(node, closed))) {
                    return false;
                }
            }
            return feeder.firstOverloaded(closed) == NONE;
        }
    }

    /** The relays, and what they do at a fault. */
    private static final class Protection {
        private final Grid grid;
        private final Feeder feeder;
        private final int[] pickup = new int[MAX_LINES];
        private final int[] multiplier = new int[MAX_LINES];
        private final int[] instant = new int[MAX_LINES];

        Protection(Grid itsGrid, Feeder itsFeeder) {
            grid = itsGrid;
            feeder = itsFeeder;
        }

        void setUp(int line, int itsPickup, int itsMultiplier, int itsInstant) {
            if (grid.isLine(line)) {
                pickup[line] = itsPickup;
                multiplier[line] = itsMultiplier;
                instant[line] = itsInstant;
            }
        }

        int pickupAt(int line) {
            return grid.isLine(line) ? pickup[line] : 0;
        }

        /** The trip time of a line's relay, or NONE if it does not trip or there is none. */
        int timeFor(int line, int current) {
            if (!grid.isLine(line) || !has(grid.breakers, line)) {
                return NONE;
            }
            int excess = current - pickup[line];
            if (excess <= 0) {
                return NONE;
            }
            if (instant[line] != 0 && instant[line] <= current) {
                return 1;
            }
            return multiplier[line] * pickup[line] * 10 / excess + 2;
        }

        int currentOfFault(int line, int length, int closed) {
            int capacity = grid.capacityAt(grid.sourceOfLine(line, closed));
            return length > 0 ? capacity * 10 / length : 0;
        }

        /** The line whose relay trips at a fault on a line, or NONE, or ALL_AT_SOURCE. */
        int answerTo(int line, int closed) {
            int length = feeder.layPath(line, closed);
            if (length == 0) {
                return NONE;
            }
            int first = firstOnPath(length, currentOfFault(line, length, closed), NONE);
            return first == NONE ? ALL_AT_SOURCE : first;
        }

        /** By how much a line's own relay is faster than the next one, or NONE if no other one trips. */
        int leadOf(int line, int closed) {
            int length = feeder.layPath(line, closed);
            int current = currentOfFault(line, length, closed);
            int rival = firstOnPath(length, current, line);
            return rival == NONE ? NONE : timeFor(rival, current) - timeFor(line, current);
        }

        /** The first line of the path to trip, one left out; 'not later' lets the farthest of several win. */
        private int firstOnPath(int length, int current, int leftOut) {
            int first = NONE;
            int least = 0;
            for (int index = 0; index < length; index++) {
                int line = feeder.lineOnPath(index);
                int time = line == leftOut ? NONE : timeFor(line, current);
                if (time != NONE && (first == NONE || time <= least)) {
                    first = line;
                    least = time;
                }
            }
            return first;
        }
    }

    /** Finds the best plan; a plan is a set of lines. */
    private static final class Planner {
        private final Grid grid;
        private final Switches switches;
        private int candidates;
        private int bestPlan;
        private int bestValue;

        Planner(Grid itsGrid, Switches itsSwitches) {
            grid = itsGrid;
            switches = itsSwitches;
        }

        private void startWithEmptyPlan() {
            candidates = switches.ofPlans();
            bestPlan = 0;
            bestValue = valueOf(0);
        }

        private int valueOf(int plan) {
            return grid.weightIn(grid.liveWith(switches.closed | plan));
        }

        /** Whether this value and size beat the best plan so far. */
        private boolean isBetter(int value, int size) {
            return value > bestValue || value == bestValue && size < Integer.bitCount(bestPlan);
        }

        private void keepIfBetter(int plan, int value) {
            if (isBetter(value, Integer.bitCount(plan))) {
                bestPlan = plan;
                bestValue = value;
            }
        }

        void findBest() {
            startWithEmptyPlan();
            extend(0, 0);
        }

        /**
         * Tries what a plan becomes with lines from a number on; each level starts at a higher
         * number, so there are at most 13 levels. It gives up when not even all lines from there
         * on, if they could all be closed, would make it better. Of plans of one size, that with
         * the lower number where they first differ comes first here, so it is kept.
         */
        private void extend(int plan, int from) {
            for (int line = from; line < MAX_LINES; line++) {
                if (!has(candidates, line)) {
                    continue;
                }
                int withAllLater = plan | candidates & ~(bit(line) - 1);
                if (!isBetter(valueOf(withAllLater), Integer.bitCount(plan) + 1)) {
                    return;
                }
                if (switches.closeReason(line, switches.closed | plan) == 'n') {
                    int longer = plan | bit(line);
                    keepIfBetter(longer, valueOf(longer));
                    extend(longer, line + 1);
                }
            }
        }

        void tryAllSets() {
            startWithEmptyPlan();
            for (int lines = 1; lines < 1 << MAX_LINES; lines++) {
                if ((lines & ~candidates) == 0 && canBeClosedInOrder(lines)) {
                    keepIfBetter(lines, valueOf(lines));
                }
            }
        }

        private boolean canBeClosedInOrder(int lines) {
            int done = 0;
            for (int line = 0; line < MAX_LINES; line++) {
                if (has(lines, line)) {
                    if (switches.closeReason(line, switches.closed | done) != 'n') {
                        return false;
                    }
                    done |= bit(line);
                }
            }
            return true;
        }
    }
}
