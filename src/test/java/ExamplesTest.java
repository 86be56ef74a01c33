/** The four examples of the document, call by call. */
public final class ExamplesTest {
    private static final Due DUE = new Due("ExamplesTest");

    public static void main(String[] args) {
        measuredPairMakesOthersIdentifiable();
        gravityAndFittingToLinks();
        twoLinksBetweenTheSameNodes();
        errors();
        DUE.end();
    }

    private static TrafficMatrix lineOfThree() {
        TrafficMatrix x = new TrafficMatrix();
        DUE.is("addLink(0, 1, 1)", x.addLink(0, 1, 1), 0);
        DUE.is("addLink(1, 2, 1)", x.addLink(1, 2, 1), 1);
        DUE.is("setDemand(0, 1, 10)", x.setDemand(0, 1, 10), 0);
        DUE.is("setDemand(0, 2, 4)", x.setDemand(0, 2, 4), 0);
        DUE.is("setDemand(1, 2, 7)", x.setDemand(1, 2, 7), 0);
        return x;
    }

    private static void measuredPairMakesOthersIdentifiable() {
        TrafficMatrix x = lineOfThree();
        DUE.is("routeLength(0, 2)", x.routeLength(0, 2), 2);
        DUE.is("routeLink(0, 2, 1)", x.routeLink(0, 2, 1), 1);
        DUE.is("carriedLoad(0)", x.carriedLoad(0), 14);
        DUE.is("measure()", x.measure(), 21);
        DUE.is("rank()", x.rank(), 2);
        DUE.is("isIdentifiable(0, 1)", x.isIdentifiable(0, 1), 0);
        DUE.is("bestPair()", x.bestPair(), 1);
        DUE.is("measurePair(0, 2)", x.measurePair(0, 2), 4);
        DUE.is("isIdentifiable(0, 1)", x.isIdentifiable(0, 1), 1);
        DUE.is("identifiedNumerator(0, 1)", x.identifiedNumerator(0, 1), 10);
        DUE.is("identifiedDenominator(0, 1)", x.identifiedDenominator(0, 1), 1);
    }

    private static void gravityAndFittingToLinks() {
        TrafficMatrix x = lineOfThree();
        DUE.is("measure()", x.measure(), 21);
        DUE.is("applyGravity()", x.applyGravity(), 3);
        DUE.is("estimate(0, 1)", x.estimate(0, 1), 6666);
        DUE.is("estimate(0, 2)", x.estimate(0, 2), 7333);
        DUE.is("residual(0)", x.residual(0), -1);
        DUE.is("fitLinks(2)", x.fitLinks(2), 0);
        DUE.is("estimate(0, 1)", x.estimate(0, 1), 6666);
        DUE.is("residual(0)", x.residual(0), -1);
        DUE.is("totalError()", x.totalError(), 10001);
    }

    private static void twoLinksBetweenTheSameNodes() {
        TrafficMatrix x = new TrafficMatrix();
        DUE.is("addLink(0, 1, 5)", x.addLink(0, 1, 5), 0);
        DUE.is("addLink(0, 1, 5)", x.addLink(0, 1, 5), 1);
        DUE.is("routeLink(0, 1, 0)", x.routeLink(0, 1, 0), 0);
        DUE.is("setMetric(0, 6)", x.setMetric(0, 6), 5);
        DUE.is("routeLink(0, 1, 0)", x.routeLink(0, 1, 0), 1);
        DUE.is("setMeasuredLoad(0, 3)", x.setMeasuredLoad(0, 3), 0);
        DUE.is("isConsistent()", x.isConsistent(), 0);
        DUE.is("identifiedNumerator(0, 1)", x.identifiedNumerator(0, 1), Due.NO_VALUE);
        DUE.is("routeLength(1, 0)", x.routeLength(1, 0), -6);
        DUE.is("isIdentifiable(1, 0)", x.isIdentifiable(1, 0), -6);
    }

    private static void errors() {
        TrafficMatrix x = new TrafficMatrix();
        DUE.is("reset(6)", x.reset(6), -4);
        DUE.is("addLink(0, 3, 1)", x.addLink(0, 3, 1), -1);
        DUE.is("addLink(0, 0, 1)", x.addLink(0, 0, 1), -2);
        DUE.is("addLink(0, 1, 0)", x.addLink(0, 1, 0), -4);
        DUE.is("setDemand(1, 0, 10000)", x.setDemand(1, 0, 10000), -4);
        DUE.is("measurePair(1, 0)", x.measurePair(1, 0), -6);
        DUE.is("forgetPair(1, 0)", x.forgetPair(1, 0), -7);
        DUE.is("estimate(2, 2)", x.estimate(2, 2), Due.NO_VALUE);
        DUE.is("fitTotals(0)", x.fitTotals(0), -4);
    }
}
