import java.math.BigInteger;
import java.util.ArrayList;
import java.util.List;

/**
 * The document once more, written without regard to speed and in other ways than the class: routes
 * by listing all paths, equations by ranks over exact fractions, with every measured pair as a row.
 */
final class Oracle {
    private static final long NO_VALUE = Long.MIN_VALUE;

    private int nodes = 3;
    private final List<int[]> links = new ArrayList<>();
    private int[][] demand = new int[5][5];
    private int[] load = new int[12];
    private int[] out = new int[5];
    private int[] in = new int[5];
    private Integer[][] measured = new Integer[5][5];
    private BigInteger[][] estimate = zeros();

    private static BigInteger[][] zeros() {
        BigInteger[][] z = new BigInteger[5][5];
        for (BigInteger[] row : z) {
            java.util.Arrays.fill(row, BigInteger.ZERO);
        }
        return z;
    }

    private static BigInteger big(long value) {
        return BigInteger.valueOf(value);
    }

    private int pairError(int s, int t) {
        if (s < 0 || t < 0 || s >= nodes || t >= nodes) {
            return -1;
        }
        return s == t ? -2 : 0;
    }

    private int routeError(int s, int t) {
        int error = pairError(s, t);
        return error != 0 ? error : route(s, t) == null ? -6 : 0;
    }

    private boolean noLink(int link) {
        return link < 0 || link >= links.size();
    }

    int reset(int n) {
        if (n < 2 || n > 5) {
            return -4;
        }
        int removed = links.size();
        nodes = n;
        links.clear();
        demand = new int[5][5];
        load = new int[12];
        out = new int[5];
        in = new int[5];
        measured = new Integer[5][5];
        estimate = zeros();
        return removed;
    }

    int addLink(int s, int t, int metric) {
        int error = pairError(s, t);
        if (error != 0) {
            return error;
        }
        if (metric < 1 || metric > 99) {
            return -4;
        }
        if (links.size() == 12) {
            return -5;
        }
        links.add(new int[] {s, t, metric});
        return links.size() - 1;
    }

    int setMetric(int link, int metric) {
        if (noLink(link)) {
            return -3;
        }
        if (metric < 1 || metric > 99) {
            return -4;
        }
        int previous = links.get(link)[2];
        links.get(link)[2] = metric;
        return previous;
    }

    // ---- routes: all paths are listed, and the best one is kept

    private List<Integer> route(int s, int t) {
        if (s == t) {
            return null;
        }
        List<List<Integer>> paths = new ArrayList<>();
        listPaths(s, t, 1 << s, new ArrayList<>(), paths);
        List<Integer> best = null;
        for (List<Integer> path : paths) {
            if (best == null || isBetter(path, best)) {
                best = path;
            }
        }
        return best;
    }

    private void listPaths(int at, int t, int seen, List<Integer> path, List<List<Integer>> paths) {
        if (at == t) {
            paths.add(new ArrayList<>(path));
            return;
        }
        for (int link = links.size() - 1; link >= 0; link--) {
            int next = links.get(link)[1];
            if (links.get(link)[0] == at && (seen & 1 << next) == 0) {
                path.add(link);
                listPaths(next, t, seen | 1 << next, path, paths);
                path.remove(path.size() - 1);
            }
        }
    }

    private int sumOfMetrics(List<Integer> path) {
        return path.stream().mapToInt(link -> links.get(link)[2]).sum();
    }

    private boolean isBetter(List<Integer> a, List<Integer> b) {
        if (sumOfMetrics(a) != sumOfMetrics(b)) {
            return sumOfMetrics(a) < sumOfMetrics(b);
        }
        if (a.size() != b.size()) {
            return a.size() < b.size();
        }
        for (int i = 0; i < a.size(); i++) {
            if (!a.get(i).equals(b.get(i))) {
                return a.get(i) < b.get(i);
            }
        }
        return false;
    }

    private List<int[]> routed() {
        List<int[]> pairs = new ArrayList<>();
        for (int s = 0; s < nodes; s++) {
            for (int t = 0; t < nodes; t++) {
                if (route(s, t) != null) {
                    pairs.add(new int[] {s, t});
                }
            }
        }
        return pairs;
    }

    private List<int[]> routedOver(int link) {
        List<int[]> pairs = routed();
        pairs.removeIf(p -> !route(p[0], p[1]).contains(link));
        return pairs;
    }

    int routeLength(int s, int t) {
        int error = routeError(s, t);
        return error != 0 ? error : route(s, t).size();
    }

    int routeLink(int s, int t, int k) {
        int error = routeError(s, t);
        if (error != 0) {
            return error;
        }
        return k < 0 || k >= route(s, t).size() ? -4 : route(s, t).get(k);
    }

    int setDemand(int s, int t, int value) {
        int error = pairError(s, t);
        if (error != 0) {
            return error;
        }
        if (value < 0 || value > 9999) {
            return -4;
        }
        int previous = demand[s][t];
        demand[s][t] = value;
        return previous;
    }

    int carriedLoad(int link) {
        return noLink(link) ? -3 : routedOver(link).stream().mapToInt(p -> demand[p[0]][p[1]]).sum();
    }

    int measure() {
        for (int link = 0; link < links.size(); link++) {
            load[link] = carriedLoad(link);
        }
        out = new int[5];
        in = new int[5];
        int sum = 0;
        for (int[] p : routed()) {
            out[p[0]] += demand[p[0]][p[1]];
            in[p[1]] += demand[p[0]][p[1]];
            sum += demand[p[0]][p[1]];
        }
        return sum;
    }

    int setMeasuredLoad(int link, int value) {
        if (noLink(link)) {
            return -3;
        }
        if (value < 0 || value > 199980) {
            return -4;
        }
        int previous = load[link];
        load[link] = value;
        return previous;
    }

    int measuredLoad(int link) {
        return noLink(link) ? -3 : load[link];
    }

    int outTotal(int node) {
        return node < 0 || node >= nodes ? -1 : out[node];
    }

    int inTotal(int node) {
        return node < 0 || node >= nodes ? -1 : in[node];
    }

    int measurePair(int s, int t) {
        int error = routeError(s, t);
        if (error != 0) {
            return error;
        }
        measured[s][t] = demand[s][t];
        return demand[s][t];
    }

    int forgetPair(int s, int t) {
        int error = pairError(s, t);
        if (error != 0) {
            return error;
        }
        if (measured[s][t] == null) {
            return -7;
        }
        int value = measured[s][t];
        measured[s][t] = null;
        return value;
    }

    // ---- equations: rows of left sides with the right side as the last entry

    private List<BigInteger[]> equations(List<int[]> unknowns) {
        List<BigInteger[]> rows = new ArrayList<>();
        for (int link = 0; link < links.size(); link++) {
            BigInteger[] row = emptyRow(unknowns.size());
            for (int u = 0; u < unknowns.size(); u++) {
                if (route(unknowns.get(u)[0], unknowns.get(u)[1]).contains(link)) {
                    row[u] = BigInteger.ONE;
                }
            }
            row[unknowns.size()] = big(load[link]);
            rows.add(row);
        }
        for (int u = 0; u < unknowns.size(); u++) {
            Integer value = measured[unknowns.get(u)[0]][unknowns.get(u)[1]];
            if (value != null) {
                rows.add(unitRow(unknowns.size(), u, value));
            }
        }
        return rows;
    }

    private static BigInteger[] emptyRow(int width) {
        BigInteger[] row = new BigInteger[width + 1];
        java.util.Arrays.fill(row, BigInteger.ZERO);
        return row;
    }

    private static BigInteger[] unitRow(int width, int place, long right) {
        BigInteger[] row = emptyRow(width);
        row[place] = BigInteger.ONE;
        row[width] = big(right);
        return row;
    }

    private static List<BigInteger[]> with(List<BigInteger[]> rows, BigInteger[] row) {
        List<BigInteger[]> all = new ArrayList<>(rows);
        all.add(row);
        return all;
    }

    private static int rankOf(List<BigInteger[]> rows, int columns) {
        List<BigInteger[]> left = new ArrayList<>();
        for (BigInteger[] row : rows) {
            left.add(row.clone());
        }
        return rows.size() - eliminate(left, columns).size();
    }

    /** Clears the first columns, multiplying rows crosswise; what remains are the rows without a pivot. */
    private static List<BigInteger[]> eliminate(List<BigInteger[]> left, int columns) {
        for (int c = 0; c < columns; c++) {
            BigInteger[] pivot = null;
            for (BigInteger[] row : left) {
                if (pivot == null && row[c].signum() != 0) {
                    pivot = row;
                }
            }
            if (pivot == null) {
                continue;
            }
            left.remove(pivot);
            for (BigInteger[] row : left) {
                BigInteger factor = row[c];
                for (int j = 0; j < row.length; j++) {
                    row[j] = row[j].multiply(pivot[c]).subtract(pivot[j].multiply(factor));
                }
            }
        }
        return left;
    }

    private static boolean isDetermined(List<BigInteger[]> rows, int width, int u) {
        return rankOf(rows, width) == rankOf(with(rows, unitRow(width, u, 0)), width);
    }

    private static boolean hasSolution(List<BigInteger[]> rows, int width) {
        return rankOf(rows, width) == rankOf(rows, width + 1);
    }

    private static int countDetermined(List<BigInteger[]> rows, int width) {
        int count = 0;
        for (int u = 0; u < width; u++) {
            count += isDetermined(rows, width, u) ? 1 : 0;
        }
        return count;
    }

    int rank() {
        List<int[]> unknowns = routed();
        return rankOf(equations(unknowns), unknowns.size());
    }

    int isConsistent() {
        List<int[]> unknowns = routed();
        return hasSolution(equations(unknowns), unknowns.size()) ? 1 : 0;
    }

    private static int place(List<int[]> unknowns, int s, int t) {
        for (int u = 0; u < unknowns.size(); u++) {
            if (unknowns.get(u)[0] == s && unknowns.get(u)[1] == t) {
                return u;
            }
        }
        throw new IllegalStateException("no such unknown");
    }

    int isIdentifiable(int s, int t) {
        int error = routeError(s, t);
        if (error != 0) {
            return error;
        }
        List<int[]> unknowns = routed();
        return isDetermined(equations(unknowns), unknowns.size(), place(unknowns, s, t)) ? 1 : 0;
    }

    int identifiableCount() {
        List<int[]> unknowns = routed();
        return countDetermined(equations(unknowns), unknowns.size());
    }

    /** Eliminates all other unknowns; the row that is left tells a multiple of the value. */
    private BigInteger[] identified(int s, int t) {
        List<int[]> unknowns = routed();
        int width = unknowns.size();
        if (routeError(s, t) != 0) {
            return null;
        }
        int u = place(unknowns, s, t);
        List<BigInteger[]> rows = equations(unknowns);
        if (!isDetermined(rows, width, u) || !hasSolution(rows, width)) {
            return null;
        }
        // x(u) moves to the last place before the right side, so that it is eliminated last
        for (BigInteger[] row : rows) {
            BigInteger swap = row[u];
            row[u] = row[width - 1];
            row[width - 1] = swap;
        }
        for (BigInteger[] row : eliminate(rows, width - 1)) {
            if (row[width - 1].signum() != 0) {
                BigInteger gcd = row[width - 1].gcd(row[width]);
                BigInteger sign = big(row[width - 1].signum());
                return new BigInteger[] {
                    row[width].divide(gcd).multiply(sign), row[width - 1].divide(gcd).multiply(sign)
                };
            }
        }
        throw new IllegalStateException("an identifiable pair without a row");
    }

    long identifiedNumerator(int s, int t) {
        BigInteger[] value = identified(s, t);
        return value == null ? NO_VALUE : value[0].longValueExact();
    }

    long identifiedDenominator(int s, int t) {
        BigInteger[] value = identified(s, t);
        return value == null ? NO_VALUE : value[1].longValueExact();
    }

    int bestPair() {
        List<int[]> unknowns = routed();
        int width = unknowns.size();
        List<BigInteger[]> rows = equations(unknowns);
        int best = -7;
        int bestCount = -1;
        for (int u = 0; u < width; u++) {
            if (!isDetermined(rows, width, u)) {
                int count = countDetermined(with(rows, unitRow(width, u, 0)), width);
                if (count > bestCount) {
                    bestCount = count;
                    best = 10 * unknowns.get(u)[0] + unknowns.get(u)[1];
                }
            }
        }
        return best;
    }

    int pairsOnLink(int link) {
        return noLink(link) ? -3 : routedOver(link).size();
    }

    // ---- estimates

    private void clearUnrouted() {
        for (int s = 0; s < 5; s++) {
            for (int t = 0; t < 5; t++) {
                if (route(s, t) == null) {
                    estimate[s][t] = BigInteger.ZERO;
                }
            }
        }
    }

    int applyGravity() {
        long total = 0;
        for (int o : out) {
            total += o;
        }
        int count = 0;
        clearUnrouted();
        for (int[] p : routed()) {
            estimate[p[0]][p[1]] = total == 0 ? BigInteger.ZERO
                    : big(out[p[0]]).multiply(big(in[p[1]])).multiply(big(1000)).divide(big(total));
            count += estimate[p[0]][p[1]].signum();
        }
        return count;
    }

    private void scale(List<int[]> pairs, int goal) {
        BigInteger sum = BigInteger.ZERO;
        for (int[] p : pairs) {
            sum = sum.add(estimate[p[0]][p[1]]);
        }
        if (sum.signum() > 0) {
            for (int[] p : pairs) {
                estimate[p[0]][p[1]] =
                        estimate[p[0]][p[1]].multiply(big(goal)).multiply(big(1000)).divide(sum);
            }
        }
    }

    private int changedSince(BigInteger[][] before) {
        int count = 0;
        for (int s = 0; s < 5; s++) {
            for (int t = 0; t < 5; t++) {
                count += estimate[s][t].equals(before[s][t]) ? 0 : 1;
            }
        }
        return count;
    }

    private BigInteger[][] copyOfEstimates() {
        BigInteger[][] copy = new BigInteger[5][];
        for (int s = 0; s < 5; s++) {
            copy[s] = estimate[s].clone();
        }
        return copy;
    }

    int fitTotals(int times) {
        if (times < 1 || times > 50) {
            return -4;
        }
        BigInteger[][] before = copyOfEstimates();
        for (int time = 0; time < times; time++) {
            for (int node = 0; node < nodes; node++) {
                int source = node;
                scale(routed().stream().filter(p -> p[0] == source).toList(), out[node]);
            }
            for (int node = 0; node < nodes; node++) {
                int target = node;
                scale(routed().stream().filter(p -> p[1] == target).toList(), in[node]);
            }
            clearUnrouted();
        }
        return changedSince(before);
    }

    int fitLinks(int times) {
        if (times < 1 || times > 50) {
            return -4;
        }
        BigInteger[][] before = copyOfEstimates();
        for (int time = 0; time < times; time++) {
            for (int link = 0; link < links.size(); link++) {
                scale(routedOver(link), load[link]);
            }
            clearUnrouted();
        }
        return changedSince(before);
    }

    long estimate(int s, int t) {
        return pairError(s, t) != 0 ? NO_VALUE : estimate[s][t].longValueExact();
    }

    long residual(int link) {
        if (noLink(link)) {
            return NO_VALUE;
        }
        BigInteger sum = big(load[link]).multiply(big(-1000));
        for (int[] p : routedOver(link)) {
            sum = sum.add(estimate[p[0]][p[1]]);
        }
        return sum.longValueExact();
    }

    long totalError() {
        BigInteger sum = BigInteger.ZERO;
        for (int[] p : routed()) {
            sum = sum.add(estimate[p[0]][p[1]].subtract(big(1000L * demand[p[0]][p[1]])).abs());
        }
        return sum.longValueExact();
    }
}
