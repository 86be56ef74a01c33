import java.util.Arrays;

/**
 * Estimates a traffic matrix from link loads. The project's document says, promise by promise, what
 * each public method does; the classes inside hold one part of the state each.
 */
public final class TrafficMatrix {
    public static final int NO_SUCH_NODE = -1;
    public static final int SAME_NODE = -2;
    public static final int NO_SUCH_LINK = -3;
    public static final int BAD_VALUE = -4;
    public static final int FULL = -5;
    public static final int NO_ROUTE = -6;
    public static final int NONE = -7;
    public static final long NO_VALUE = Long.MIN_VALUE;

    private static final int MIN_NODES = 2;
    private static final int MAX_NODES = 5;
    private static final int NODES_AT_FIRST = 3;
    private static final int MAX_LINKS = 12;
    private static final int MAX_METRIC = 99;
    private static final int MAX_DEMAND = 9999;
    private static final int MAX_LOAD = 199980;
    private static final int MAX_TIMES = 50;
    private static final int NO_ERROR = 0;

    // Every pair (s, t) has a slot, s * MAX_NODES + t, whatever the number of nodes is. The slots of
    // equal or missing nodes never get a route, so that loops over all slots may pass over them.
    private static final int SLOTS = MAX_NODES * MAX_NODES;

    private final Network network = new Network();
    private final int[] demands = new int[SLOTS];
    private final Measurements measurements = new Measurements();
    private final Equations equations = new Equations();
    private final Estimates estimates = new Estimates();

    public TrafficMatrix() {
        network.startAnew(NODES_AT_FIRST);
        measurements.startAnew();
    }

    // ---- network

    public int reset(int nodes) {
        if (nodes < MIN_NODES || nodes > MAX_NODES) {
            return BAD_VALUE;
        }
        int removed = network.linkCount;
        network.startAnew(nodes);
        Arrays.fill(demands, 0);
        measurements.startAnew();
        estimates.startAnew();
        return removed;
    }

    public int addLink(int source, int target, int metric) {
        int error = pairError(source, target);
        if (error != NO_ERROR) {
            return error;
        }
        if (!isMetric(metric)) {
            return BAD_VALUE;
        }
        if (network.linkCount >= MAX_LINKS) {
            return FULL;
        }
        return network.append(source, target, metric);
    }

    public int setMetric(int link, int metric) {
        if (!network.hasLink(link)) {
            return NO_SUCH_LINK;
        }
        if (!isMetric(metric)) {
            return BAD_VALUE;
        }
        return network.replaceMetric(link, metric);
    }

    public int routeLength(int source, int target) {
        int error = routeError(source, target);
        if (error != NO_ERROR) {
            return error;
        }
        return network.routeLengths[slotOf(source, target)];
    }

    public int routeLink(int source, int target, int k) {
        int error = routeError(source, target);
        if (error != NO_ERROR) {
            return error;
        }
        int slot = slotOf(source, target);
        if (k < 0 || k >= network.routeLengths[slot]) {
            return BAD_VALUE;
        }
        return network.routeLinks[slot][k];
    }

    // ---- demands

    public int setDemand(int source, int target, int value) {
        int error = pairError(source, target);
        if (error != NO_ERROR) {
            return error;
        }
        if (value < 0 || value > MAX_DEMAND) {
            return BAD_VALUE;
        }
        int slot = slotOf(source, target);
        int previous = demands[slot];
        demands[slot] = value;
        return previous;
    }

    public int carriedLoad(int link) {
        return network.hasLink(link) ? network.loadOf(link, demands) : NO_SUCH_LINK;
    }

    // ---- measurements

    public int measure() {
        measurements.take(network, demands);
        return measurements.sumOfOutTotals();
    }

    public int setMeasuredLoad(int link, int value) {
        if (!network.hasLink(link)) {
            return NO_SUCH_LINK;
        }
        if (value < 0 || value > MAX_LOAD) {
            return BAD_VALUE;
        }
        int previous = measurements.loads[link];
        measurements.loads[link] = value;
        return previous;
    }

    public int measuredLoad(int link) {
        return network.hasLink(link) ? measurements.loads[link] : NO_SUCH_LINK;
    }

    public int outTotal(int node) {
        return network.hasNode(node) ? measurements.outTotals[node] : NO_SUCH_NODE;
    }

    public int inTotal(int node) {
        return network.hasNode(node) ? measurements.inTotals[node] : NO_SUCH_NODE;
    }

    public int measurePair(int source, int target) {
        int error = routeError(source, target);
        if (error != NO_ERROR) {
            return error;
        }
        int slot = slotOf(source, target);
        measurements.pairValues[slot] = demands[slot];
        return demands[slot];
    }

    public int forgetPair(int source, int target) {
        int error = pairError(source, target);
        if (error != NO_ERROR) {
            return error;
        }
        int slot = slotOf(source, target);
        if (!measurements.hasPair(slot)) {
            return NONE;
        }
        int forgotten = measurements.pairValues[slot];
        measurements.pairValues[slot] = Measurements.NOT_MEASURED;
        return forgotten;
    }

    // ---- equations

    public int rank() {
        equations.solve(network, measurements);
        return equations.knownCount + equations.pivotCount;
    }

    public int isConsistent() {
        equations.solve(network, measurements);
        return equations.haveSolution() ? 1 : 0;
    }

    public int isIdentifiable(int source, int target) {
        int error = routeError(source, target);
        if (error != NO_ERROR) {
            return error;
        }
        equations.solve(network, measurements);
        return equations.determine(slotOf(source, target)) ? 1 : 0;
    }

    public int identifiableCount() {
        equations.solve(network, measurements);
        int count = 0;
        for (int slot = 0; slot < SLOTS; slot++) {
            if (network.hasRoute(slot) && equations.determine(slot)) {
                count++;
            }
        }
        return count;
    }

    public long identifiedNumerator(int source, int target) {
        if (!findIdentified(source, target)) {
            return NO_VALUE;
        }
        return equations.numeratorOf(slotOf(source, target), measurements);
    }

    public long identifiedDenominator(int source, int target) {
        if (!findIdentified(source, target)) {
            return NO_VALUE;
        }
        return equations.denominatorOf(slotOf(source, target));
    }

    public int bestPair() {
        equations.solve(network, measurements);
        int best = NONE;
        int bestCount = 0;
        for (int slot = 0; slot < SLOTS; slot++) {
            if (network.hasRoute(slot) && !equations.determine(slot)) {
                int count = countWith(slot);
                if (count > bestCount) {
                    bestCount = count;
                    best = 10 * (slot / MAX_NODES) + slot % MAX_NODES;
                }
            }
        }
        return best;
    }

    public int pairsOnLink(int link) {
        if (!network.hasLink(link)) {
            return NO_SUCH_LINK;
        }
        int count = 0;
        for (int slot = 0; slot < SLOTS; slot++) {
            if (network.routeUses(slot, link)) {
                count++;
            }
        }
        return count;
    }

    // ---- estimates

    public int applyGravity() {
        return estimates.takeGravity(network, measurements);
    }

    public int fitTotals(int times) {
        if (!isTimes(times)) {
            return BAD_VALUE;
        }
        estimates.remember();
        for (int time = 0; time < times; time++) {
            estimates.fitOnceToTotals(measurements);
        }
        return estimates.countChanged();
    }

    public int fitLinks(int times) {
        if (!isTimes(times)) {
            return BAD_VALUE;
        }
        estimates.remember();
        for (int time = 0; time < times; time++) {
            estimates.fitOnceToLinks(network, measurements);
        }
        return estimates.countChanged();
    }

    public long estimate(int source, int target) {
        if (pairError(source, target) != NO_ERROR) {
            return NO_VALUE;
        }
        return estimates.values[slotOf(source, target)];
    }

    public long residual(int link) {
        if (!network.hasLink(link)) {
            return NO_VALUE;
        }
        return estimates.sumOnLink(network, link) - 1000L * measurements.loads[link];
    }

    public long totalError() {
        long sum = 0;
        for (int slot = 0; slot < SLOTS; slot++) {
            if (network.hasRoute(slot)) {
                sum += Math.abs(estimates.values[slot] - 1000L * demands[slot]);
            }
        }
        return sum;
    }

    // ---- helpers

    private static int slotOf(int source, int target) {
        return source * MAX_NODES + target;
    }

    private static boolean isMetric(int metric) {
        return metric >= 1 && metric <= MAX_METRIC;
    }

    private static boolean isTimes(int times) {
        return times >= 1 && times <= MAX_TIMES;
    }

    private int pairError(int source, int target) {
        if (!network.hasNode(source) || !network.hasNode(target)) {
            return NO_SUCH_NODE;
        }
        return source == target ? SAME_NODE : NO_ERROR;
    }

    private int routeError(int source, int target) {
        int error = pairError(source, target);
        if (error != NO_ERROR) {
            return error;
        }
        return network.hasRoute(slotOf(source, target)) ? NO_ERROR : NO_ROUTE;
    }

    /** Solves the equations and tells whether they give the pair an identified value. */
    private boolean findIdentified(int source, int target) {
        if (routeError(source, target) != NO_ERROR) {
            return false;
        }
        equations.solve(network, measurements);
        return equations.determine(slotOf(source, target)) && equations.haveSolution();
    }

    /** The number of identifiable pairs if the pair of the slot, not identifiable now, were measured. */
    private int countWith(int measured) {
        int count = 0;
        for (int slot = 0; slot < SLOTS; slot++) {
            if (network.hasRoute(slot) && equations.determineWith(measured, slot)) {
                count++;
            }
        }
        return count;
    }

    /** The nodes, the links, and the routes that follow from them. */
    private static final class Network {
        private static final int MAX_HOPS = MAX_NODES - 1;
        private static final int NO_LINK = -1;

        // A link costs its metric times METRIC_WEIGHT plus 1: as no route has METRIC_WEIGHT links,
        // the lesser cost is the lesser sum of metrics and, among equal sums, the fewer links.
        private static final int METRIC_WEIGHT = 8;
        private static final int UNREACHED = 1000000;

        int nodeCount;
        int linkCount;
        final int[] sources = new int[MAX_LINKS];
        final int[] targets = new int[MAX_LINKS];
        final int[] metrics = new int[MAX_LINKS];
        final int[] routeLengths = new int[SLOTS];
        final int[][] routeLinks = new int[SLOTS][MAX_HOPS];
        final int[] costs = new int[MAX_NODES];

        void startAnew(int nodes) {
            nodeCount = nodes;
            linkCount = 0;
            Arrays.fill(routeLengths, 0);
        }

        boolean hasNode(int node) {
            return node >= 0 && node < nodeCount;
        }

        boolean hasLink(int link) {
            return link >= 0 && link < linkCount;
        }

        boolean hasRoute(int slot) {
            return routeLengths[slot] > 0;
        }

        boolean routeUses(int slot, int link) {
            for (int place = 0; place < routeLengths[slot]; place++) {
                if (routeLinks[slot][place] == link) {
                    return true;
                }
            }
            return false;
        }

        int loadOf(int link, int[] demands) {
            int sum = 0;
            for (int slot = 0; slot < SLOTS; slot++) {
                if (routeUses(slot, link)) {
                    sum += demands[slot];
                }
            }
            return sum;
        }

        int append(int source, int target, int metric) {
            int link = linkCount;
            sources[link] = source;
            targets[link] = target;
            metrics[link] = metric;
            linkCount++;
            findRoutes();
            return link;
        }

        int replaceMetric(int link, int metric) {
            int previous = metrics[link];
            metrics[link] = metric;
            findRoutes();
            return previous;
        }

        private void findRoutes() {
            for (int target = 0; target < nodeCount; target++) {
                findCostsTo(target);
                for (int source = 0; source < nodeCount; source++) {
                    findRoute(source, target);
                }
            }
        }

        private void findCostsTo(int target) {
            Arrays.fill(costs, UNREACHED);
            costs[target] = 0;
            for (int hop = 0; hop < MAX_HOPS; hop++) {
                for (int link = 0; link < linkCount; link++) {
                    int source = sources[link];
                    costs[source] = Math.min(costs[source], costOver(link));
                }
            }
        }

        /** The cost from a link's source to the present target if the link is taken first. */
        private int costOver(int link) {
            return metrics[link] * METRIC_WEIGHT + 1 + costs[targets[link]];
        }

        /** Follows the cheapest links; the lowest number at each node makes the first difference. */
        private void findRoute(int source, int target) {
            int slot = slotOf(source, target);
            int length = 0;
            int node = source;
            while (node != target && length < MAX_HOPS) {
                int link = cheapestFrom(node);
                if (link == NO_LINK) {
                    break;
                }
                routeLinks[slot][length] = link;
                length++;
                node = targets[link];
            }
            routeLengths[slot] = node == target ? length : 0;
        }

        private int cheapestFrom(int node) {
            if (costs[node] >= UNREACHED) {
                return NO_LINK;
            }
            for (int link = 0; link < linkCount; link++) {
                if (sources[link] == node && costOver(link) == costs[node]) {
                    return link;
                }
            }
            return NO_LINK;
        }
    }

    /** The measured loads of links, totals of nodes and values of pairs. */
    private static final class Measurements {
        static final int NOT_MEASURED = -1;

        final int[] loads = new int[MAX_LINKS];
        final int[] outTotals = new int[MAX_NODES];
        final int[] inTotals = new int[MAX_NODES];
        final int[] pairValues = new int[SLOTS];

        void startAnew() {
            Arrays.fill(loads, 0);
            Arrays.fill(outTotals, 0);
            Arrays.fill(inTotals, 0);
            Arrays.fill(pairValues, NOT_MEASURED);
        }

        boolean hasPair(int slot) {
            return pairValues[slot] != NOT_MEASURED;
        }

        void take(Network network, int[] demands) {
            for (int link = 0; link < network.linkCount; link++) {
                loads[link] = network.loadOf(link, demands);
            }
            Arrays.fill(outTotals, 0);
            Arrays.fill(inTotals, 0);
            for (int slot = 0; slot < SLOTS; slot++) {
                if (network.hasRoute(slot)) {
                    outTotals[slot / MAX_NODES] += demands[slot];
                    inTotals[slot % MAX_NODES] += demands[slot];
                }
            }
        }

        int sumOfOutTotals() {
            int sum = 0;
            for (int node = 0; node < MAX_NODES; node++) {
                sum += outTotals[node];
            }
            return sum;
        }
    }

    /**
     * The equations, solved without fractions. Measured pairs are put into the links' equations as
     * known values; what is left, at most 12 rows of zeros and ones, is brought into the reduced form
     * in which every entry is a minor of the first matrix (Bareiss). Such a minor stays below 4000,
     * and below 10^10 with the column of loads, so that products of two of them fit into a long.
     */
    private static final class Equations {
        private static final int RIGHT_SIDE = SLOTS;
        private static final int UNSET = -1;
        private static final int MAX_GCD_STEPS = 100;

        int rowCount;
        int knownCount;
        int pivotCount;
        // After the elimination all pivots are equal to this one.
        long pivot;
        final long[][] rows = new long[MAX_LINKS][SLOTS + 1];
        final int[] rowOfPivot = new int[SLOTS];
        final int[] pivotOfRow = new int[MAX_LINKS];
        final boolean[] known = new boolean[SLOTS];

        void solve(Network network, Measurements measurements) {
            rowCount = network.linkCount;
            findKnown(network, measurements);
            for (int row = 0; row < rowCount; row++) {
                fillRow(row, network, measurements);
            }
            eliminate();
        }

        private void findKnown(Network network, Measurements measurements) {
            knownCount = 0;
            for (int slot = 0; slot < SLOTS; slot++) {
                known[slot] = network.hasRoute(slot) && measurements.hasPair(slot);
                if (known[slot]) {
                    knownCount++;
                }
            }
        }

        private void fillRow(int link, Network network, Measurements measurements) {
            long[] row = rows[link];
            Arrays.fill(row, 0);
            row[RIGHT_SIDE] = measurements.loads[link];
            for (int slot = 0; slot < SLOTS; slot++) {
                if (network.routeUses(slot, link)) {
                    if (known[slot]) {
                        row[RIGHT_SIDE] -= measurements.pairValues[slot];
                    } else {
                        row[slot] = 1;
                    }
                }
            }
        }

        private void eliminate() {
            pivotCount = 0;
            pivot = 1;
            Arrays.fill(rowOfPivot, UNSET);
            Arrays.fill(pivotOfRow, UNSET);
            for (int column = 0; column < SLOTS; column++) {
                int row = findPivotRow(column);
                if (row != UNSET) {
                    clearColumn(column, row);
                    rowOfPivot[column] = row;
                    pivotOfRow[row] = column;
                    pivotCount++;
                }
            }
        }

        private int findPivotRow(int column) {
            for (int row = 0; row < rowCount; row++) {
                if (pivotOfRow[row] == UNSET && rows[row][column] != 0) {
                    return row;
                }
            }
            return UNSET;
        }

        private void clearColumn(int column, int pivotRow) {
            long next = rows[pivotRow][column];
            for (int row = 0; row < rowCount; row++) {
                // With an equal pivot a row that has 0 in the column would stay as it is.
                if (row != pivotRow && (next != pivot || rows[row][column] != 0)) {
                    combine(rows[row], rows[pivotRow], column);
                }
            }
            pivot = next;
        }

        /** One step of Bareiss: the division by the pivot before leaves no remainder. */
        private void combine(long[] row, long[] pivotRow, int column) {
            long next = pivotRow[column];
            long factor = row[column];
            for (int place = 0; place <= RIGHT_SIDE; place++) {
                row[place] = quotient(next * row[place] - factor * pivotRow[place], pivot);
            }
        }

        private static long quotient(long value, long divisor) {
            return divisor == 0 ? 0 : value / divisor;
        }

        boolean haveSolution() {
            for (int row = 0; row < rowCount; row++) {
                if (pivotOfRow[row] == UNSET && rows[row][RIGHT_SIDE] != 0) {
                    return false;
                }
            }
            return true;
        }

        boolean determine(int slot) {
            return firstFreePart(slot) == UNSET;
        }

        /**
         * Whether the pair of a slot is identifiable once a pair that is not so now is measured: what
         * is free in it must be a multiple of what is free in the measured one.
         */
        boolean determineWith(int measured, int slot) {
            int first = firstFreePart(measured);
            if (first == UNSET) {
                return determine(slot);
            }
            for (int column = 0; column < SLOTS; column++) {
                if (freePart(slot, column) * freePart(measured, first)
                        != freePart(slot, first) * freePart(measured, column)) {
                    return false;
                }
            }
            return true;
        }

        private int firstFreePart(int slot) {
            for (int column = 0; column < SLOTS; column++) {
                if (freePart(slot, column) != 0) {
                    return column;
                }
            }
            return UNSET;
        }

        /** The part, up to a factor of the slot, that the free unknown of a column has in its value. */
        private long freePart(int slot, int column) {
            if (known[slot]) {
                return 0;
            }
            int row = rowOfPivot[slot];
            if (row == UNSET) {
                return slot == column ? 1 : 0;
            }
            return slot == column ? 0 : rows[row][column];
        }

        long numeratorOf(int slot, Measurements measurements) {
            int row = rowOfPivot[slot];
            if (row == UNSET) {
                return measurements.pairValues[slot];
            }
            long value = rows[row][RIGHT_SIDE];
            return quotient(pivot < 0 ? -value : value, divisorOfPivotAnd(value));
        }

        long denominatorOf(int slot) {
            int row = rowOfPivot[slot];
            if (row == UNSET) {
                return 1;
            }
            return quotient(Math.abs(pivot), divisorOfPivotAnd(rows[row][RIGHT_SIDE]));
        }

        /** The greatest common divisor of the pivot, which is not 0, and a value. */
        private long divisorOfPivotAnd(long value) {
            long divisor = Math.abs(pivot);
            long rest = Math.abs(value);
            for (int step = 0; step < MAX_GCD_STEPS && rest != 0; step++) {
                long next = divisor % rest;
                divisor = rest;
                rest = next;
            }
            return divisor;
        }
    }

    /**
     * The estimates in thousandths. None is above 1000 * MAX_LOAD, which no total exceeds either, so that
     * all products fit into a long. A pair never loses its route but by a reset, which makes all estimates
     * 0: so the pairs without a route have the estimate 0 all the time, and fitting leaves them there.
     */
    private static final class Estimates {
        final long[] values = new long[SLOTS];
        final long[] remembered = new long[SLOTS];

        void startAnew() {
            Arrays.fill(values, 0);
        }

        void remember() {
            System.arraycopy(values, 0, remembered, 0, SLOTS);
        }

        int countChanged() {
            int count = 0;
            for (int slot = 0; slot < SLOTS; slot++) {
                if (values[slot] != remembered[slot]) {
                    count++;
                }
            }
            return count;
        }

        int takeGravity(Network network, Measurements measurements) {
            long total = measurements.sumOfOutTotals();
            int count = 0;
            for (int slot = 0; slot < SLOTS; slot++) {
                values[slot] = 0;
                if (network.hasRoute(slot)) {
                    long out = measurements.outTotals[slot / MAX_NODES];
                    values[slot] = scaled(out, measurements.inTotals[slot % MAX_NODES], total);
                }
                if (values[slot] > 0) {
                    count++;
                }
            }
            return count;
        }

        void fitOnceToTotals(Measurements measurements) {
            for (int source = 0; source < MAX_NODES; source++) {
                fitLine(slotOf(source, 0), 1, measurements.outTotals[source]);
            }
            for (int target = 0; target < MAX_NODES; target++) {
                fitLine(slotOf(0, target), MAX_NODES, measurements.inTotals[target]);
            }
        }

        /** Fits the slots of one source or of one target, which lie at equal steps. */
        private void fitLine(int first, int step, int goal) {
            long sum = 0;
            for (int place = 0; place < MAX_NODES; place++) {
                sum += values[first + place * step];
            }
            if (sum > 0) {
                for (int place = 0; place < MAX_NODES; place++) {
                    int slot = first + place * step;
                    values[slot] = scaled(values[slot], goal, sum);
                }
            }
        }

        void fitOnceToLinks(Network network, Measurements measurements) {
            for (int link = 0; link < network.linkCount; link++) {
                fitLink(network, link, measurements.loads[link]);
            }
        }

        private void fitLink(Network network, int link, int goal) {
            long sum = sumOnLink(network, link);
            if (sum > 0) {
                for (int slot = 0; slot < SLOTS; slot++) {
                    if (network.routeUses(slot, link)) {
                        values[slot] = scaled(values[slot], goal, sum);
                    }
                }
            }
        }

        long sumOnLink(Network network, int link) {
            long sum = 0;
            for (int slot = 0; slot < SLOTS; slot++) {
                if (network.routeUses(slot, link)) {
                    sum += values[slot];
                }
            }
            return sum;
        }

        private static long scaled(long value, long goal, long whole) {
            return whole <= 0 ? 0 : value * goal * 1000 / whole;
        }
    }
}
