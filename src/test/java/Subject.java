/**
 * A new TrafficMatrix whose answers know their calls. It also notices when a test calls it more often
 * than the document allows.
 */
final class Subject {
    private static final int MOST_CALLS = 512;

    private final TrafficMatrix matrix = new TrafficMatrix();
    private int calls = 0;

    int calls() {
        return calls;
    }

    private Answer told(long got, String method, int... arguments) {
        calls++;
        StringBuilder text = new StringBuilder(method).append('(');
        for (int i = 0; i < arguments.length; i++) {
            text.append(i > 0 ? ", " : "").append(arguments[i]);
        }
        text.append(')');
        if (calls > MOST_CALLS) {
            Sentences.due(text + " is call number", calls, MOST_CALLS);
        }
        return new Answer(text.toString(), got);
    }

    // ---- networks that many tests begin with

    static Subject ofNodes(int nodes) {
        Subject x = new Subject();
        x.reset(nodes);
        return x;
    }

    /** Links of metric 1 from each node to the next one: link s leads from node s. */
    static Subject line(int nodes) {
        Subject x = ofNodes(nodes);
        for (int s = 0; s + 1 < nodes; s++) {
            x.addLink(s, s + 1, 1);
        }
        return x;
    }

    /** A line that is closed: every pair has a route, and link s leads from node s. */
    static Subject ring(int nodes) {
        Subject x = line(nodes);
        x.addLink(nodes - 1, 0, 1);
        return x;
    }

    /** Five nodes, all pairs with a route, and 13 of them over link 0, the most that can be. */
    static Subject hub() {
        Subject x = ofNodes(5);
        x.addLink(0, 1, 1);
        for (int node = 2; node < 5; node++) {
            x.addLink(node, 0, 1);
            x.addLink(1, node, 1);
        }
        return x;
    }

    /** Two pairs alone, 0 to 1 over link 0 and 2 to 3 over link 1, with their demands measured. */
    static Subject islands(int demand01, int demand23) {
        Subject x = ofNodes(4);
        x.addLink(0, 1, 1);
        x.addLink(2, 3, 1);
        x.setDemand(0, 1, demand01);
        x.setDemand(2, 3, demand23);
        x.measure();
        return x;
    }

    /** One link from 0 to 1 with its demand measured and the estimate made of it. */
    static Subject oneLink(int demand) {
        Subject x = ofNodes(2);
        x.addLink(0, 1, 1);
        x.setDemand(0, 1, demand);
        x.measure();
        x.applyGravity();
        return x;
    }

    Subject withAllDemands(int nodes, int demand) {
        for (int s = 0; s < nodes; s++) {
            for (int t = 0; t < nodes; t++) {
                if (s != t) {
                    setDemand(s, t, demand);
                }
            }
        }
        return this;
    }

    // ---- the face

    Answer reset(int nodes) {
        return told(matrix.reset(nodes), "reset", nodes);
    }

    Answer addLink(int source, int target, int metric) {
        return told(matrix.addLink(source, target, metric), "addLink", source, target, metric);
    }

    Answer setMetric(int link, int metric) {
        return told(matrix.setMetric(link, metric), "setMetric", link, metric);
    }

    Answer routeLength(int source, int target) {
        return told(matrix.routeLength(source, target), "routeLength", source, target);
    }

    Answer routeLink(int source, int target, int k) {
        return told(matrix.routeLink(source, target, k), "routeLink", source, target, k);
    }

    Answer setDemand(int source, int target, int value) {
        return told(matrix.setDemand(source, target, value), "setDemand", source, target, value);
    }

    Answer carriedLoad(int link) {
        return told(matrix.carriedLoad(link), "carriedLoad", link);
    }

    Answer measure() {
        return told(matrix.measure(), "measure");
    }

    Answer setMeasuredLoad(int link, int value) {
        return told(matrix.setMeasuredLoad(link, value), "setMeasuredLoad", link, value);
    }

    Answer measuredLoad(int link) {
        return told(matrix.measuredLoad(link), "measuredLoad", link);
    }

    Answer outTotal(int node) {
        return told(matrix.outTotal(node), "outTotal", node);
    }

    Answer inTotal(int node) {
        return told(matrix.inTotal(node), "inTotal", node);
    }

    Answer measurePair(int source, int target) {
        return told(matrix.measurePair(source, target), "measurePair", source, target);
    }

    Answer forgetPair(int source, int target) {
        return told(matrix.forgetPair(source, target), "forgetPair", source, target);
    }

    Answer rank() {
        return told(matrix.rank(), "rank");
    }

    Answer isConsistent() {
        return told(matrix.isConsistent(), "isConsistent");
    }

    Answer isIdentifiable(int source, int target) {
        return told(matrix.isIdentifiable(source, target), "isIdentifiable", source, target);
    }

    Answer identifiableCount() {
        return told(matrix.identifiableCount(), "identifiableCount");
    }

    Answer identifiedNumerator(int source, int target) {
        return told(matrix.identifiedNumerator(source, target), "identifiedNumerator", source, target);
    }

    Answer identifiedDenominator(int source, int target) {
        return told(matrix.identifiedDenominator(source, target), "identifiedDenominator", source, target);
    }

    Answer bestPair() {
        return told(matrix.bestPair(), "bestPair");
    }

    Answer pairsOnLink(int link) {
        return told(matrix.pairsOnLink(link), "pairsOnLink", link);
    }

    Answer applyGravity() {
        return told(matrix.applyGravity(), "applyGravity");
    }

    Answer fitTotals(int times) {
        return told(matrix.fitTotals(times), "fitTotals", times);
    }

    Answer fitLinks(int times) {
        return told(matrix.fitLinks(times), "fitLinks", times);
    }

    Answer estimate(int source, int target) {
        return told(matrix.estimate(source, target), "estimate", source, target);
    }

    Answer residual(int link) {
        return told(matrix.residual(link), "residual", link);
    }

    Answer totalError() {
        return told(matrix.totalError(), "totalError");
    }
}
