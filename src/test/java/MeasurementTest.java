/** Promises 9 to 15: what is measured, and that nothing else changes it. */
public final class MeasurementTest {
    private static final Due DUE = new Due("MeasurementTest");

    public static void main(String[] args) {
        promise9Measure();
        greatestTotals();
        promise10SetMeasuredLoad();
        promise11MeasuredLoad();
        promises12And13Totals();
        promise14MeasurePair();
        promise15ForgetPair();
        measuredValuesStay();
        DUE.end();
    }

    private static TrafficMatrix line() {
        TrafficMatrix x = new TrafficMatrix();
        x.addLink(0, 1, 1);
        x.addLink(1, 2, 1);
        x.setDemand(0, 1, 1);
        x.setDemand(0, 2, 20);
        x.setDemand(1, 2, 300);
        x.setDemand(2, 0, 4000);
        return x;
    }

    private static void promise9Measure() {
        TrafficMatrix x = line();
        DUE.is("measuredLoad(0) before", x.measuredLoad(0), 0);
        DUE.is("measure()", x.measure(), 321);
        DUE.is("measuredLoad(0)", x.measuredLoad(0), 21);
        DUE.is("measuredLoad(1)", x.measuredLoad(1), 320);
        DUE.is("outTotal(0)", x.outTotal(0), 21);
        DUE.is("outTotal(1)", x.outTotal(1), 300);
        DUE.is("outTotal(2), without a route", x.outTotal(2), 0);
        DUE.is("inTotal(0), without a route", x.inTotal(0), 0);
        DUE.is("inTotal(1)", x.inTotal(1), 1);
        DUE.is("inTotal(2)", x.inTotal(2), 320);
        x.setDemand(0, 1, 0);
        x.setMeasuredLoad(1, 5);
        DUE.is("measure() again", x.measure(), 320);
        DUE.is("measuredLoad(0) again", x.measuredLoad(0), 20);
        DUE.is("measuredLoad(1) again", x.measuredLoad(1), 320);
        DUE.is("inTotal(1) again", x.inTotal(1), 0);
        DUE.is("no pair is measured", x.forgetPair(0, 1), TrafficMatrix.NONE);
    }

    private static void greatestTotals() {
        TrafficMatrix x = new TrafficMatrix();
        x.reset(5);
        for (int s = 0; s < 5; s++) {
            x.addLink(s, (s + 1) % 5, 1);
            for (int t = 0; t < 5; t++) {
                x.setDemand(s, t, 9999);
            }
        }
        DUE.is("greatest: measure()", x.measure(), 199980);
        for (int node = 0; node < 5; node++) {
            DUE.is("greatest: outTotal", x.outTotal(node), 39996);
            DUE.is("greatest: inTotal", x.inTotal(node), 39996);
            DUE.is("greatest: measuredLoad", x.measuredLoad(node), 99990);
        }
    }

    private static void promise10SetMeasuredLoad() {
        TrafficMatrix x = line();
        DUE.is("setMeasuredLoad(2, -1)", x.setMeasuredLoad(2, -1), TrafficMatrix.NO_SUCH_LINK);
        DUE.is("setMeasuredLoad(-1, 1)", x.setMeasuredLoad(-1, 1), TrafficMatrix.NO_SUCH_LINK);
        DUE.is("setMeasuredLoad(0, -1)", x.setMeasuredLoad(0, -1), TrafficMatrix.BAD_VALUE);
        DUE.is("setMeasuredLoad(0, 199981)", x.setMeasuredLoad(0, 199981), TrafficMatrix.BAD_VALUE);
        DUE.is("setMeasuredLoad(0, 199980)", x.setMeasuredLoad(0, 199980), 0);
        DUE.is("setMeasuredLoad(0, 0)", x.setMeasuredLoad(0, 0), 199980);
        DUE.is("setMeasuredLoad(0, 7)", x.setMeasuredLoad(0, 7), 0);
        DUE.is("measuredLoad(0)", x.measuredLoad(0), 7);
        DUE.is("measuredLoad(1)", x.measuredLoad(1), 0);
        DUE.is("carriedLoad(0)", x.carriedLoad(0), 21);
        DUE.is("outTotal(0)", x.outTotal(0), 0);
    }

    private static void promise11MeasuredLoad() {
        TrafficMatrix x = new TrafficMatrix();
        DUE.is("measuredLoad(0) without links", x.measuredLoad(0), TrafficMatrix.NO_SUCH_LINK);
        x = line();
        DUE.is("measuredLoad(-1)", x.measuredLoad(-1), TrafficMatrix.NO_SUCH_LINK);
        DUE.is("measuredLoad(2)", x.measuredLoad(2), TrafficMatrix.NO_SUCH_LINK);
        DUE.is("measuredLoad(12)", x.measuredLoad(12), TrafficMatrix.NO_SUCH_LINK);
        DUE.is("measuredLoad(1)", x.measuredLoad(1), 0);
        x.measure();
        DUE.is("measuredLoad(1), measured", x.measuredLoad(1), 320);
    }

    private static void promises12And13Totals() {
        TrafficMatrix x = line();
        DUE.is("outTotal(-1)", x.outTotal(-1), TrafficMatrix.NO_SUCH_NODE);
        DUE.is("outTotal(3)", x.outTotal(3), TrafficMatrix.NO_SUCH_NODE);
        DUE.is("inTotal(-1)", x.inTotal(-1), TrafficMatrix.NO_SUCH_NODE);
        DUE.is("inTotal(3)", x.inTotal(3), TrafficMatrix.NO_SUCH_NODE);
        DUE.is("outTotal(0) at first", x.outTotal(0), 0);
        DUE.is("inTotal(2) at first", x.inTotal(2), 0);
        x.measure();
        DUE.is("outTotal(0)", x.outTotal(0), 21);
        DUE.is("inTotal(2)", x.inTotal(2), 320);
    }

    private static void promise14MeasurePair() {
        TrafficMatrix x = line();
        DUE.is("measurePair(0, 3)", x.measurePair(0, 3), TrafficMatrix.NO_SUCH_NODE);
        DUE.is("measurePair(-1, -1)", x.measurePair(-1, -1), TrafficMatrix.NO_SUCH_NODE);
        DUE.is("measurePair(2, 2)", x.measurePair(2, 2), TrafficMatrix.SAME_NODE);
        DUE.is("measurePair(2, 0)", x.measurePair(2, 0), TrafficMatrix.NO_ROUTE);
        DUE.is("the pair without a route is not measured", x.forgetPair(2, 0), TrafficMatrix.NONE);
        DUE.is("measurePair(0, 2)", x.measurePair(0, 2), 20);
        x.setDemand(0, 2, 25);
        DUE.is("the value is the one of then", x.forgetPair(0, 2), 20);
        x.measurePair(0, 2);
        x.setDemand(0, 2, 0);
        DUE.is("measurePair(0, 2) anew", x.measurePair(0, 2), 0);
        DUE.is("a pair measured as 0 is measured", x.forgetPair(0, 2), 0);
    }

    private static void promise15ForgetPair() {
        TrafficMatrix x = line();
        DUE.is("forgetPair(3, 3)", x.forgetPair(3, 3), TrafficMatrix.NO_SUCH_NODE);
        DUE.is("forgetPair(0, -1)", x.forgetPair(0, -1), TrafficMatrix.NO_SUCH_NODE);
        DUE.is("forgetPair(1, 1)", x.forgetPair(1, 1), TrafficMatrix.SAME_NODE);
        DUE.is("forgetPair(0, 1)", x.forgetPair(0, 1), TrafficMatrix.NONE);
        DUE.is("forgetPair(2, 0), without a route", x.forgetPair(2, 0), TrafficMatrix.NONE);
        x.measurePair(0, 1);
        x.measurePair(1, 2);
        DUE.is("forgetPair(0, 1), measured", x.forgetPair(0, 1), 1);
        DUE.is("forgetPair(0, 1), forgotten", x.forgetPair(0, 1), TrafficMatrix.NONE);
        DUE.is("forgetPair(1, 2), measured", x.forgetPair(1, 2), 300);
    }

    private static void measuredValuesStay() {
        TrafficMatrix x = line();
        x.measure();
        x.measurePair(0, 2);
        x.setDemand(0, 2, 9);
        x.addLink(0, 2, 1);
        x.setMetric(0, 50);
        DUE.is("the load stays", x.measuredLoad(1), 320);
        DUE.is("the new link has no load", x.measuredLoad(2), 0);
        DUE.is("the out total stays", x.outTotal(0), 21);
        DUE.is("the in total stays", x.inTotal(2), 320);
        DUE.is("the pair's value stays", x.forgetPair(0, 2), 20);
    }
}
