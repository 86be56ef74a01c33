/** Promises 1 to 8: the network, its routes, and the demands that they carry. */
public final class NetworkTest {
    private static final Due DUE = new Due("NetworkTest");

    public static void main(String[] args) {
        promise1NewObject();
        promise2Reset();
        promise3AddLink();
        promise4SetMetric();
        promise5RouteLength();
        promise6RouteLink();
        routesPreferFewerLinks();
        routesPreferLowerLinksWhereTheyDifferFirst();
        promise7SetDemand();
        promise8CarriedLoad();
        DUE.end();
    }

    private static void promise1NewObject() {
        TrafficMatrix x = new TrafficMatrix();
        DUE.is("new: outTotal(2)", x.outTotal(2), 0);
        DUE.is("new: outTotal(3)", x.outTotal(3), TrafficMatrix.NO_SUCH_NODE);
        DUE.is("new: inTotal(2)", x.inTotal(2), 0);
        DUE.is("new: measuredLoad(0)", x.measuredLoad(0), TrafficMatrix.NO_SUCH_LINK);
        for (int s = 0; s < 3; s++) {
            for (int t = 0; t < 3; t++) {
                if (s != t) {
                    String pair = "(" + s + ", " + t + ")";
                    DUE.is("new: routeLength" + pair, x.routeLength(s, t), TrafficMatrix.NO_ROUTE);
                    DUE.is("new: forgetPair" + pair, x.forgetPair(s, t), TrafficMatrix.NONE);
                    DUE.is("new: estimate" + pair, x.estimate(s, t), 0);
                    DUE.is("new: setDemand" + pair, x.setDemand(s, t, 0), 0);
                }
            }
        }
        DUE.is("new: rank()", x.rank(), 0);
        DUE.is("new: isConsistent()", x.isConsistent(), 1);
        DUE.is("new: reset(3)", x.reset(3), 0);
    }

    private static void promise2Reset() {
        TrafficMatrix x = new TrafficMatrix();
        fillRing(x);
        x.measure();
        x.measurePair(0, 1);
        x.applyGravity();
        DUE.is("reset(1)", x.reset(1), TrafficMatrix.BAD_VALUE);
        DUE.is("reset(6)", x.reset(6), TrafficMatrix.BAD_VALUE);
        DUE.is("reset(MIN)", x.reset(Integer.MIN_VALUE), TrafficMatrix.BAD_VALUE);
        DUE.is("reset(MAX)", x.reset(Integer.MAX_VALUE), TrafficMatrix.BAD_VALUE);
        DUE.is("a refused reset keeps the links", x.routeLength(0, 2), 2);
        DUE.is("a refused reset keeps the loads", x.measuredLoad(0), 60);
        DUE.is("a refused reset keeps the estimates", x.applyGravity() > 0 ? 1 : 0, 1);
        DUE.is("reset(3)", x.reset(3), 3);
        afterReset(x, 3);
        DUE.is("reset(2)", x.reset(2), 0);
        DUE.is("reset(2): outTotal(1)", x.outTotal(1), 0);
        DUE.is("reset(2): outTotal(2)", x.outTotal(2), TrafficMatrix.NO_SUCH_NODE);
        DUE.is("reset(5)", x.reset(5), 0);
        afterReset(x, 5);
        DUE.is("reset(5): inTotal(5)", x.inTotal(5), TrafficMatrix.NO_SUCH_NODE);
    }

    private static void fillRing(TrafficMatrix x) {
        for (int s = 0; s < 3; s++) {
            x.addLink(s, (s + 1) % 3, 1);
            for (int t = 0; t < 3; t++) {
                x.setDemand(s, t, 20);
            }
        }
    }

    private static void afterReset(TrafficMatrix x, int nodes) {
        DUE.is("after reset: measuredLoad(0)", x.measuredLoad(0), TrafficMatrix.NO_SUCH_LINK);
        for (int s = 0; s < nodes; s++) {
            DUE.is("after reset: outTotal", x.outTotal(s), 0);
            DUE.is("after reset: inTotal", x.inTotal(s), 0);
            for (int t = 0; t < nodes; t++) {
                if (s != t) {
                    DUE.is("after reset: routeLength", x.routeLength(s, t), TrafficMatrix.NO_ROUTE);
                    DUE.is("after reset: forgetPair", x.forgetPair(s, t), TrafficMatrix.NONE);
                    DUE.is("after reset: estimate", x.estimate(s, t), 0);
                    DUE.is("after reset: setDemand", x.setDemand(s, t, 0), 0);
                }
            }
        }
        DUE.is("after reset: rank()", x.rank(), 0);
        DUE.is("after reset: totalError()", x.totalError(), 0);
        DUE.is("after reset: addLink", x.addLink(0, 1, 4), 0);
        DUE.is("after reset: a new link's load", x.measuredLoad(0), 0);
        DUE.is("after reset: reset", x.reset(nodes), 1);
    }

    private static void promise3AddLink() {
        TrafficMatrix x = new TrafficMatrix();
        DUE.is("addLink(-1, 0, 1)", x.addLink(-1, 0, 1), TrafficMatrix.NO_SUCH_NODE);
        DUE.is("addLink(0, 3, 1)", x.addLink(0, 3, 1), TrafficMatrix.NO_SUCH_NODE);
        DUE.is("addLink(3, 3, 0)", x.addLink(3, 3, 0), TrafficMatrix.NO_SUCH_NODE);
        DUE.is("addLink(2, 2, 0)", x.addLink(2, 2, 0), TrafficMatrix.SAME_NODE);
        DUE.is("addLink(0, 1, 0)", x.addLink(0, 1, 0), TrafficMatrix.BAD_VALUE);
        DUE.is("addLink(0, 1, 100)", x.addLink(0, 1, 100), TrafficMatrix.BAD_VALUE);
        DUE.is("addLink(0, 1, -5)", x.addLink(0, 1, -5), TrafficMatrix.BAD_VALUE);
        DUE.is("a refused link is no link", x.carriedLoad(0), TrafficMatrix.NO_SUCH_LINK);
        DUE.is("addLink(0, 1, 1)", x.addLink(0, 1, 1), 0);
        DUE.is("addLink(0, 1, 99)", x.addLink(0, 1, 99), 1);
        DUE.is("measuredLoad(1)", x.measuredLoad(1), 0);
        for (int link = 2; link < 12; link++) {
            DUE.is("addLink(1, 0, 7)", x.addLink(1, 0, 7), link);
        }
        DUE.is("full: addLink(1, 2, 1)", x.addLink(1, 2, 1), TrafficMatrix.FULL);
        DUE.is("full: addLink(1, 2, 0)", x.addLink(1, 2, 0), TrafficMatrix.BAD_VALUE);
        DUE.is("full: addLink(1, 1, 0)", x.addLink(1, 1, 0), TrafficMatrix.SAME_NODE);
        DUE.is("full: addLink(1, 3, 0)", x.addLink(1, 3, 0), TrafficMatrix.NO_SUCH_NODE);
        DUE.is("full: no route was added", x.routeLength(1, 2), TrafficMatrix.NO_ROUTE);
        DUE.is("full: reset(2)", x.reset(2), 12);
    }

    private static void promise4SetMetric() {
        TrafficMatrix x = new TrafficMatrix();
        DUE.is("setMetric(0, 0) without links", x.setMetric(0, 0), TrafficMatrix.NO_SUCH_LINK);
        x.addLink(0, 1, 9);
        x.addLink(0, 1, 8);
        DUE.is("setMetric(-1, 5)", x.setMetric(-1, 5), TrafficMatrix.NO_SUCH_LINK);
        DUE.is("setMetric(2, 5)", x.setMetric(2, 5), TrafficMatrix.NO_SUCH_LINK);
        DUE.is("setMetric(0, 0)", x.setMetric(0, 0), TrafficMatrix.BAD_VALUE);
        DUE.is("setMetric(0, 100)", x.setMetric(0, 100), TrafficMatrix.BAD_VALUE);
        DUE.is("the route is over link 1", x.routeLink(0, 1, 0), 1);
        DUE.is("setMetric(0, 1)", x.setMetric(0, 1), 9);
        DUE.is("the route is over link 0", x.routeLink(0, 1, 0), 0);
        DUE.is("setMetric(0, 99)", x.setMetric(0, 99), 1);
        DUE.is("the route is over link 1 again", x.routeLink(0, 1, 0), 1);
        DUE.is("setMetric(0, 99) again", x.setMetric(0, 99), 99);
    }

    private static void promise5RouteLength() {
        TrafficMatrix x = new TrafficMatrix();
        x.reset(5);
        for (int s = 0; s < 5; s++) {
            x.addLink(s, (s + 1) % 5, 99);
        }
        for (int s = 0; s < 5; s++) {
            for (int hops = 1; hops < 5; hops++) {
                DUE.is("ring: routeLength", x.routeLength(s, (s + hops) % 5), hops);
            }
        }
        DUE.is("routeLength(5, 5)", x.routeLength(5, 5), TrafficMatrix.NO_SUCH_NODE);
        DUE.is("routeLength(0, -1)", x.routeLength(0, -1), TrafficMatrix.NO_SUCH_NODE);
        DUE.is("routeLength(4, 4)", x.routeLength(4, 4), TrafficMatrix.SAME_NODE);
        x.reset(3);
        x.addLink(0, 1, 1);
        DUE.is("routeLength(1, 0)", x.routeLength(1, 0), TrafficMatrix.NO_ROUTE);
        DUE.is("routeLength(0, 2)", x.routeLength(0, 2), TrafficMatrix.NO_ROUTE);
        DUE.is("routeLength(0, 1)", x.routeLength(0, 1), 1);
    }

    private static void promise6RouteLink() {
        TrafficMatrix x = new TrafficMatrix();
        x.reset(4);
        x.addLink(2, 3, 1);
        x.addLink(1, 2, 1);
        x.addLink(0, 1, 1);
        DUE.is("routeLink(0, 3, 0)", x.routeLink(0, 3, 0), 2);
        DUE.is("routeLink(0, 3, 1)", x.routeLink(0, 3, 1), 1);
        DUE.is("routeLink(0, 3, 2)", x.routeLink(0, 3, 2), 0);
        DUE.is("routeLink(0, 3, 3)", x.routeLink(0, 3, 3), TrafficMatrix.BAD_VALUE);
        DUE.is("routeLink(0, 3, -1)", x.routeLink(0, 3, -1), TrafficMatrix.BAD_VALUE);
        DUE.is("routeLink(0, 3, MAX)", x.routeLink(0, 3, Integer.MAX_VALUE), TrafficMatrix.BAD_VALUE);
        DUE.is("routeLink(0, 3, MIN)", x.routeLink(0, 3, Integer.MIN_VALUE), TrafficMatrix.BAD_VALUE);
        DUE.is("routeLink(3, 0, -1)", x.routeLink(3, 0, -1), TrafficMatrix.NO_ROUTE);
        DUE.is("routeLink(3, 3, -1)", x.routeLink(3, 3, -1), TrafficMatrix.SAME_NODE);
        DUE.is("routeLink(4, 4, -1)", x.routeLink(4, 4, -1), TrafficMatrix.NO_SUCH_NODE);
    }

    private static void routesPreferFewerLinks() {
        TrafficMatrix x = new TrafficMatrix();
        x.reset(4);
        x.addLink(0, 1, 2);
        x.addLink(1, 2, 2);
        x.addLink(2, 3, 2);
        x.addLink(0, 2, 4);
        x.addLink(0, 3, 6);
        DUE.is("equal sums: routeLength(0, 3)", x.routeLength(0, 3), 1);
        DUE.is("equal sums: routeLink(0, 3, 0)", x.routeLink(0, 3, 0), 4);
        x.setMetric(4, 7);
        DUE.is("a worse direct link: routeLength(0, 3)", x.routeLength(0, 3), 2);
        DUE.is("a worse direct link: routeLink(0, 3, 0)", x.routeLink(0, 3, 0), 3);
        x.setMetric(3, 5);
        DUE.is("a lesser sum over more links", x.routeLength(0, 3), 3);
        DUE.is("a lesser sum over more links, first", x.routeLink(0, 3, 0), 0);
    }

    private static void routesPreferLowerLinksWhereTheyDifferFirst() {
        TrafficMatrix x = new TrafficMatrix();
        x.reset(4);
        // 0-2-3 takes links 1 and 0, 0-1-3 takes links 2 and 3: the first of them decides
        x.addLink(2, 3, 1);
        x.addLink(0, 2, 1);
        x.addLink(0, 1, 1);
        x.addLink(1, 3, 1);
        DUE.is("first links 1 and 2", x.routeLink(0, 3, 0), 1);
        x.reset(4);
        // 0-1-3 takes links 0 and 3, 0-2-3 takes links 1 and 2, with the lower last link
        x.addLink(0, 1, 1);
        x.addLink(0, 2, 1);
        x.addLink(2, 3, 1);
        x.addLink(1, 3, 1);
        DUE.is("first links 0 and 1", x.routeLink(0, 3, 0), 0);
        DUE.is("first links 0 and 1, then", x.routeLink(0, 3, 1), 3);
        x.reset(3);
        // the routes share their first link and differ in the second one
        x.addLink(1, 2, 2);
        x.addLink(1, 2, 1);
        x.addLink(0, 1, 1);
        x.addLink(1, 2, 1);
        DUE.is("second links 1 and 3", x.routeLink(0, 2, 1), 1);
    }

    private static void promise7SetDemand() {
        TrafficMatrix x = new TrafficMatrix();
        DUE.is("setDemand(0, 3, -1)", x.setDemand(0, 3, -1), TrafficMatrix.NO_SUCH_NODE);
        DUE.is("setDemand(-1, 0, -1)", x.setDemand(-1, 0, -1), TrafficMatrix.NO_SUCH_NODE);
        DUE.is("setDemand(1, 1, -1)", x.setDemand(1, 1, -1), TrafficMatrix.SAME_NODE);
        DUE.is("setDemand(0, 1, -1)", x.setDemand(0, 1, -1), TrafficMatrix.BAD_VALUE);
        DUE.is("setDemand(0, 1, 10000)", x.setDemand(0, 1, 10000), TrafficMatrix.BAD_VALUE);
        DUE.is("setDemand(0, 1, 9999)", x.setDemand(0, 1, 9999), 0);
        DUE.is("setDemand(1, 0, 3)", x.setDemand(1, 0, 3), 0);
        DUE.is("setDemand(0, 1, 0)", x.setDemand(0, 1, 0), 9999);
        DUE.is("setDemand(0, 1, 1)", x.setDemand(0, 1, 1), 0);
        DUE.is("setDemand(1, 0, 4)", x.setDemand(1, 0, 4), 3);
    }

    private static void promise8CarriedLoad() {
        TrafficMatrix x = new TrafficMatrix();
        DUE.is("carriedLoad(0) without links", x.carriedLoad(0), TrafficMatrix.NO_SUCH_LINK);
        x.addLink(0, 1, 1);
        x.addLink(1, 2, 1);
        x.setDemand(0, 1, 1);
        x.setDemand(0, 2, 20);
        x.setDemand(1, 2, 300);
        x.setDemand(2, 0, 4000);
        DUE.is("carriedLoad(0)", x.carriedLoad(0), 21);
        DUE.is("carriedLoad(1)", x.carriedLoad(1), 320);
        DUE.is("carriedLoad(2)", x.carriedLoad(2), TrafficMatrix.NO_SUCH_LINK);
        DUE.is("carriedLoad(-1)", x.carriedLoad(-1), TrafficMatrix.NO_SUCH_LINK);
        x.addLink(0, 2, 2);
        DUE.is("with a direct link: carriedLoad(0)", x.carriedLoad(0), 1);
        DUE.is("with a direct link: carriedLoad(2)", x.carriedLoad(2), 20);
        x.addLink(2, 0, 1);
        DUE.is("a kept demand is carried: carriedLoad(3)", x.carriedLoad(3), 4000);
    }
}
