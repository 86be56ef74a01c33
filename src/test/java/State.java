import java.util.ArrayList;
import java.util.List;

/**
 * All that can be seen of an object, an answer a line. Demands, metrics and measured pairs are seen
 * only by changing them, so the object is of no use afterwards.
 */
final class State {
    private static final int MOST_NODES = 5;
    private static final int MOST_LINKS = 12;

    private final Subject x;
    private final int nodes;
    private final int links;
    private final List<String> lines = new ArrayList<>();

    private State(Subject x) {
        this.x = x;
        int count = 0;
        while (count <= MOST_NODES && x.outTotal(count).got() >= 0) {
            count++;
        }
        nodes = count;
        count = 0;
        while (count <= MOST_LINKS && x.measuredLoad(count).got() >= 0) {
            count++;
        }
        links = count;
    }

    static List<String> of(Subject x) {
        State state = new State(x);
        state.look();
        state.takeOut();
        return state.lines;
    }

    /** What later changes of demands or metrics must leave as it is. */
    static List<String> ofMeasurements(Subject x) {
        State state = new State(x);
        state.lookAtMeasurements();
        state.takeOutPairs();
        return state.lines;
    }

    private void add(Answer answer) {
        lines.add(answer.told());
    }

    private void lookAtMeasurements() {
        for (int node = 0; node < nodes; node++) {
            add(x.outTotal(node));
            add(x.inTotal(node));
        }
        for (int link = 0; link < links; link++) {
            add(x.measuredLoad(link));
        }
    }

    private void look() {
        lookAtMeasurements();
        for (int link = 0; link < links; link++) {
            add(x.carriedLoad(link));
            add(x.pairsOnLink(link));
            add(x.residual(link));
        }
        for (int s = 0; s < nodes; s++) {
            for (int t = 0; t < nodes; t++) {
                if (s != t) {
                    lookAtPair(s, t);
                }
            }
        }
        add(x.rank());
        add(x.isConsistent());
        add(x.identifiableCount());
        add(x.bestPair());
        add(x.totalError());
    }

    private void lookAtPair(int s, int t) {
        add(x.estimate(s, t));
        long length = x.routeLength(s, t).got();
        lines.add("route of (" + s + ", " + t + ") has " + length);
        for (int place = 0; place < length; place++) {
            add(x.routeLink(s, t, place));
        }
        if (length > 0) {
            add(x.identifiedNumerator(s, t));
            add(x.identifiedDenominator(s, t));
        }
    }

    private void takeOut() {
        takeOutPairs();
        for (int s = 0; s < nodes; s++) {
            for (int t = 0; t < nodes; t++) {
                if (s != t) {
                    add(x.setDemand(s, t, 0));
                }
            }
        }
        for (int link = 0; link < links; link++) {
            add(x.setMetric(link, 1));
        }
        add(x.reset(2));
    }

    private void takeOutPairs() {
        for (int s = 0; s < nodes; s++) {
            for (int t = 0; t < nodes; t++) {
                if (s != t) {
                    add(x.forgetPair(s, t));
                }
            }
        }
    }
}
