/** Promises 24 to 29: the gravity model, fitting, and how far the estimates are off. */
public final class EstimateTest {
    private static final Due DUE = new Due("EstimateTest");

    public static void main(String[] args) {
        promise24ApplyGravity();
        gravityIsReplaced();
        gravityOnlyWithRoutes();
        greatestEstimates();
        promise25FitTotals();
        totalsOfNodeZero();
        totalsOfNothing();
        estimatesOfOneThousandth();
        promise26FitLinks();
        linksAreTakenInOrder();
        fittingSeveralTimes();
        promise27Estimate();
        promise28Residual();
        promise29TotalError();
        DUE.end();
    }

    private static TrafficMatrix line() {
        TrafficMatrix x = new TrafficMatrix();
        x.addLink(0, 1, 1);
        x.addLink(1, 2, 1);
        x.setDemand(0, 1, 10);
        x.setDemand(0, 2, 4);
        x.setDemand(1, 2, 7);
        x.measure();
        return x;
    }

    private static void estimates(String when, TrafficMatrix x, long e01, long e02, long e12) {
        DUE.is(when + ": estimate(0, 1)", x.estimate(0, 1), e01);
        DUE.is(when + ": estimate(0, 2)", x.estimate(0, 2), e02);
        DUE.is(when + ": estimate(1, 2)", x.estimate(1, 2), e12);
        DUE.is(when + ": estimate(1, 0)", x.estimate(1, 0), 0);
        DUE.is(when + ": estimate(2, 0)", x.estimate(2, 0), 0);
        DUE.is(when + ": estimate(2, 1)", x.estimate(2, 1), 0);
    }

    private static void promise24ApplyGravity() {
        TrafficMatrix x = line();
        estimates("at first", x, 0, 0, 0);
        DUE.is("applyGravity()", x.applyGravity(), 3);
        // 14 * 10, 14 * 11 and 7 * 11 thousands by 21
        estimates("gravity", x, 6666, 7333, 3666);
        TrafficMatrix none = new TrafficMatrix();
        none.addLink(0, 1, 1);
        none.setDemand(0, 1, 5);
        DUE.is("applyGravity() with a total of 0", none.applyGravity(), 0);
        DUE.is("estimate(0, 1) with a total of 0", none.estimate(0, 1), 0);
        TrafficMatrix tiny = line();
        tiny.setDemand(0, 1, 1);
        tiny.setDemand(0, 2, 0);
        tiny.setDemand(1, 2, 9999);
        tiny.measure();
        // 1 * 1, 1 * 9999 and 9999 * 9999 thousands by 10000, rounded down
        DUE.is("applyGravity(), one rounded to 0", tiny.applyGravity(), 2);
        estimates("tiny", tiny, 0, 999, 9998000);
    }

    private static void gravityIsReplaced() {
        TrafficMatrix x = line();
        x.applyGravity();
        x.setDemand(0, 1, 0);
        x.setDemand(0, 2, 0);
        DUE.is("applyGravity() by old totals", x.applyGravity(), 3);
        estimates("old totals", x, 6666, 7333, 3666);
        x.measure();
        DUE.is("applyGravity() by new totals", x.applyGravity(), 1);
        estimates("new totals", x, 0, 0, 7000);
        x.setDemand(1, 2, 0);
        x.measure();
        DUE.is("applyGravity() by totals of 0", x.applyGravity(), 0);
        estimates("totals of 0", x, 0, 0, 0);
    }

    private static void gravityOnlyWithRoutes() {
        TrafficMatrix x = new TrafficMatrix();
        x.addLink(0, 1, 1);
        x.addLink(2, 1, 1);
        x.addLink(1, 0, 1);
        x.setDemand(0, 1, 5);
        x.setDemand(2, 1, 6);
        x.setDemand(1, 0, 7);
        x.setDemand(0, 2, 100);
        DUE.is("measure() without x02", x.measure(), 18);
        DUE.is("applyGravity() where nothing leads to 2", x.applyGravity(), 4);
        DUE.is("estimate(0, 2)", x.estimate(0, 2), 0);
        DUE.is("estimate(2, 0)", x.estimate(2, 0), 6L * 7 * 1000 / 18);
        x.reset(4);
        x.addLink(0, 1, 1);
        x.addLink(2, 3, 1);
        x.setDemand(0, 1, 5);
        x.setDemand(2, 3, 5);
        x.measure();
        DUE.is("applyGravity() of two parts", x.applyGravity(), 2);
        DUE.is("estimate(0, 1) of two parts", x.estimate(0, 1), 2500);
        DUE.is("estimate(0, 3) of two parts", x.estimate(0, 3), 0);
        x.addLink(1, 2, 1);
        DUE.is("estimate(0, 3) with a new route", x.estimate(0, 3), 0);
        DUE.is("applyGravity() with a new route", x.applyGravity(), 3);
        DUE.is("estimate(0, 3) after it", x.estimate(0, 3), 2500);
    }

    private static void greatestEstimates() {
        TrafficMatrix x = new TrafficMatrix();
        x.reset(5);
        for (int s = 0; s < 5; s++) {
            x.addLink(s, (s + 1) % 5, 1);
            for (int t = 0; t < 5; t++) {
                x.setDemand(s, t, 9999);
            }
        }
        x.measure();
        DUE.is("greatest: applyGravity()", x.applyGravity(), 20);
        DUE.is("greatest: estimate(0, 1)", x.estimate(0, 1), 7999200);
        for (int link = 0; link < 5; link++) {
            x.setMeasuredLoad(link, 199980);
        }
        DUE.is("greatest: fitLinks(50)", x.fitLinks(50), 20);
        DUE.is("greatest: residual(4) is near 0", Math.abs(x.residual(4)) < 20 ? 1 : 0, 1);
        x.reset(2);
        x.addLink(0, 1, 1);
        x.setDemand(0, 1, 1);
        x.measure();
        x.applyGravity();
        x.setMeasuredLoad(0, 199980);
        DUE.is("greatest: fitLinks(2)", x.fitLinks(2), 1);
        DUE.is("greatest: one estimate", x.estimate(0, 1), 199980000);
    }

    private static void promise25FitTotals() {
        TrafficMatrix x = line();
        DUE.is("fitTotals(0)", x.fitTotals(0), TrafficMatrix.BAD_VALUE);
        DUE.is("fitTotals(51)", x.fitTotals(51), TrafficMatrix.BAD_VALUE);
        DUE.is("fitTotals(-1)", x.fitTotals(-1), TrafficMatrix.BAD_VALUE);
        DUE.is("fitTotals(1) of nothing", x.fitTotals(1), 0);
        x.applyGravity();
        DUE.is("fitTotals(1)", x.fitTotals(1), 3);
        // rows: 6666 and 7333 by 13999 to 14000: 6666 and 7333; 3666 to 7000
        // columns: 6666 to 10000; 7333 and 7000 by 14333 to 11000: 5627 and 5372
        estimates("totals", x, 10000, 5627, 5372);
        // rows: 10000 and 5627 by 15627 to 14000: 8958 and 5041; 7000
        // columns: 10000; 5041 and 7000 by 12041 to 11000: 4605 and 6394
        DUE.is("fitTotals(1) again", x.fitTotals(1), 2);
        estimates("totals again", x, 10000, 4605, 6394);
    }

    /** The line of the other tests with its nodes renamed, so that node 0 is the last target. */
    private static void totalsOfNodeZero() {
        TrafficMatrix x = new TrafficMatrix();
        x.addLink(1, 2, 1);
        x.addLink(2, 0, 1);
        x.setDemand(1, 2, 10);
        x.setDemand(1, 0, 4);
        x.setDemand(2, 0, 7);
        x.measure();
        x.applyGravity();
        DUE.is("node 0: fitTotals(1)", x.fitTotals(1), 3);
        DUE.is("node 0: estimate(1, 2)", x.estimate(1, 2), 10000);
        DUE.is("node 0: estimate(1, 0)", x.estimate(1, 0), 5627);
        DUE.is("node 0: estimate(2, 0)", x.estimate(2, 0), 5372);
    }

    private static void estimatesOfOneThousandth() {
        TrafficMatrix x = new TrafficMatrix();
        x.reset(4);
        x.addLink(0, 1, 1);
        x.addLink(2, 3, 1);
        x.setDemand(0, 1, 1);
        x.setDemand(2, 3, 999);
        x.measure();
        DUE.is("one thousandth: applyGravity()", x.applyGravity(), 2);
        DUE.is("one thousandth: estimate(0, 1)", x.estimate(0, 1), 1);
        DUE.is("one thousandth: fitTotals(1)", x.fitTotals(1), 2);
        DUE.is("one thousandth: estimate(0, 1), fitted to totals", x.estimate(0, 1), 1000);
        x.applyGravity();
        DUE.is("one thousandth: fitLinks(1)", x.fitLinks(1), 2);
        DUE.is("one thousandth: estimate(0, 1), fitted to links", x.estimate(0, 1), 1000);
    }

    private static void totalsOfNothing() {
        TrafficMatrix x = line();
        x.applyGravity();
        x.setDemand(0, 1, 0);
        x.measure();
        // in(1) is 0, so that column goes to 0, and a column of 0 stays
        DUE.is("fitTotals(1) with in(1) of 0", x.fitTotals(1), 3);
        DUE.is("estimate(0, 1) with in(1) of 0", x.estimate(0, 1), 0);
        x.setDemand(0, 1, 10);
        x.measure();
        x.fitTotals(3);
        DUE.is("estimate(0, 1) stays 0", x.estimate(0, 1), 0);
    }

    private static void promise26FitLinks() {
        TrafficMatrix x = line();
        DUE.is("fitLinks(0)", x.fitLinks(0), TrafficMatrix.BAD_VALUE);
        DUE.is("fitLinks(51)", x.fitLinks(51), TrafficMatrix.BAD_VALUE);
        DUE.is("fitLinks(MIN)", x.fitLinks(Integer.MIN_VALUE), TrafficMatrix.BAD_VALUE);
        DUE.is("fitLinks(50) of nothing", x.fitLinks(50), 0);
        x.applyGravity();
        x.setMeasuredLoad(0, 28);
        DUE.is("fitLinks(1)", x.fitLinks(1), 3);
        // link 0: 6666 and 7333 by 13999 to 28000: 13332 and 14667
        // link 1: 14667 and 3666 by 18333 to 11000: 8800 and 2199
        estimates("links", x, 13332, 8800, 2199);
        x.setMeasuredLoad(1, 0);
        DUE.is("fitLinks(1) to 0", x.fitLinks(1), 3);
        DUE.is("estimate(0, 2) of 0", x.estimate(0, 2), 0);
        DUE.is("estimate(1, 2) of 0", x.estimate(1, 2), 0);
        x.setMeasuredLoad(1, 5);
        x.setMeasuredLoad(0, 28);
        x.fitLinks(1);
        DUE.is("link 1 has nothing to fit", x.estimate(1, 2), 0);
        DUE.is("estimate(0, 1) has all of link 0", x.estimate(0, 1), 28000);
    }

    private static void linksAreTakenInOrder() {
        TrafficMatrix x = new TrafficMatrix();
        x.addLink(1, 2, 1);
        x.addLink(0, 1, 1);
        x.setDemand(0, 2, 1);
        x.measure();
        x.applyGravity();
        x.setMeasuredLoad(0, 3);
        x.setMeasuredLoad(1, 5);
        x.fitLinks(1);
        DUE.is("the last link has the last word", x.estimate(0, 2), 5000);
    }

    private static void fittingSeveralTimes() {
        TrafficMatrix once = line();
        TrafficMatrix often = line();
        once.applyGravity();
        often.applyGravity();
        once.setMeasuredLoad(0, 30);
        often.setMeasuredLoad(0, 30);
        for (int time = 0; time < 50; time++) {
            once.fitTotals(1);
        }
        DUE.is("fitTotals(50)", often.fitTotals(50), 3);
        estimates("fitTotals(50)", often, once.estimate(0, 1), once.estimate(0, 2), once.estimate(1, 2));
        for (int time = 0; time < 7; time++) {
            once.fitLinks(1);
        }
        often.fitLinks(7);
        estimates("fitLinks(7)", often, once.estimate(0, 1), once.estimate(0, 2), once.estimate(1, 2));
    }

    private static void promise27Estimate() {
        TrafficMatrix x = line();
        x.applyGravity();
        DUE.is("estimate(0, 3)", x.estimate(0, 3), Due.NO_VALUE);
        DUE.is("estimate(-1, 0)", x.estimate(-1, 0), Due.NO_VALUE);
        DUE.is("estimate(0, 0)", x.estimate(0, 0), Due.NO_VALUE);
        DUE.is("estimate(2, 0), without a route", x.estimate(2, 0), 0);
        DUE.is("estimate(0, 1)", x.estimate(0, 1), 6666);
    }

    private static void promise28Residual() {
        TrafficMatrix x = line();
        DUE.is("residual(-1)", x.residual(-1), Due.NO_VALUE);
        DUE.is("residual(2)", x.residual(2), Due.NO_VALUE);
        DUE.is("residual(0) of no estimates", x.residual(0), -14000);
        x.applyGravity();
        DUE.is("residual(1)", x.residual(1), 7333 + 3666 - 11000);
        x.setMeasuredLoad(1, 2);
        DUE.is("residual(1) above 0", x.residual(1), 7333 + 3666 - 2000);
        x.addLink(0, 2, 1);
        DUE.is("residual(1) with another route", x.residual(1), 3666 - 2000);
        DUE.is("residual(2) of the new link", x.residual(2), 7333);
    }

    private static void promise29TotalError() {
        TrafficMatrix x = new TrafficMatrix();
        DUE.is("totalError() without links", x.totalError(), 0);
        x = line();
        x.setDemand(2, 0, 500);
        DUE.is("totalError() of no estimates", x.totalError(), 21000);
        x.applyGravity();
        DUE.is("totalError()", x.totalError(), (10000 - 6666) + (7333 - 4000) + (7000 - 3666));
        x.setDemand(0, 1, 9999);
        DUE.is("totalError() follows the demands", x.totalError(), 9999000 - 6666 + 3333 + 3334);
        x.addLink(2, 0, 1);
        DUE.is("totalError() follows the routes",
                x.totalError(), 9999000 - 6666 + 3333 + 3334 + 500000);
    }
}
