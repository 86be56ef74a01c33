/**
 * Objects in which everything that a refused call could spoil has a value. In all of them a pair has a
 * route if and only if it leads from a lower node to a higher one, neither of them above lastOnLine.
 */
enum StartingPoint {
    EMPTY(3, 0, 0),
    SMALL(2, 1, 1),
    OPEN(5, 11, 3),
    FULL(5, 12, 3);

    final int nodes;
    final int links;
    private final int lastOnLine;

    StartingPoint(int nodes, int links, int lastOnLine) {
        this.nodes = nodes;
        this.links = links;
        this.lastOnLine = lastOnLine;
    }

    /** Parallel lines from node 0 to the last one, all values different, only (0, 1) measured. */
    Subject make() {
        Subject x = Subject.ofNodes(nodes);
        for (int link = 0; link < links; link++) {
            int step = link % lastOnLine;
            x.addLink(step, step + 1, 5 + link);
        }
        for (int s = 0; s < nodes; s++) {
            for (int t = 0; t < nodes; t++) {
                if (s != t) {
                    x.setDemand(s, t, 100 + 10 * s + t);
                }
            }
        }
        x.measure();
        x.applyGravity();
        if (hasRoute(0, 1)) {
            x.measurePair(0, 1);
            x.setDemand(0, 1, 99);
        }
        return x;
    }

    boolean hasNode(int node) {
        return node >= 0 && node < nodes;
    }

    boolean hasLink(int link) {
        return link >= 0 && link < links;
    }

    boolean hasRoute(int s, int t) {
        return s >= 0 && s < t && t <= lastOnLine;
    }

    int routeLength(int s, int t) {
        return hasRoute(s, t) ? t - s : 0;
    }

    boolean hasMeasured(int s, int t) {
        return s == 0 && t == 1 && hasRoute(s, t);
    }
}
