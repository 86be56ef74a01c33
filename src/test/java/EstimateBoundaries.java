import java.math.BigInteger;

/** Estimates: promises 24 to 29, and what the description says of them. */
final class EstimateBoundaries {
    private static final int MOST_DEMAND = 9999;
    private static final int MOST_LOAD = 199980;

    private EstimateBoundaries() {
    }

    static void run() {
        estimatesAreZeroAtFirst();
        gravityRoundsDown();
        fittingRoundsDown();
        gravityHasExactProducts();
        fittingHasExactProducts();
        pairsWithoutARoute();
        pairsThatGetARoute();
        gravityTakesMeasuredTotals();
        gravityOfNothing();
        rowsOfNothing();
        rowsOfOneThousandth();
        columnsOfNothing();
        columnsOfOneThousandth();
        columnsComeAfterRows();
        totalsOfEveryNode();
        linksOfNothing();
        linksOfOneThousandth();
        linksComeInOrder();
        promise24Replaces();
        promise24Returns();
        promise25Times();
        promise25Range();
        promise25Returns();
        promise26Times();
        promise26Range();
        promise26Returns();
        promise27();
        promise28Residual();
        promise28Returns();
        promise29AddsUp();
        promise29Returns();
    }

    /** a * b * 1000 / whole, rounded down, in numbers that cannot overflow. */
    private static long scaled(long a, long b, long whole) {
        return BigInteger.valueOf(a).multiply(BigInteger.valueOf(b)).multiply(BigInteger.valueOf(1000))
                .divide(BigInteger.valueOf(whole)).longValueExact();
    }

    /** The line of the document's second example, measured, with the estimates 6666, 7333 and 3666. */
    private static Subject example() {
        Subject x = Subject.line(3);
        x.setDemand(0, 1, 10);
        x.setDemand(0, 2, 4);
        x.setDemand(1, 2, 7);
        x.measure();
        x.applyGravity();
        return x;
    }

    private static void estimates(Subject x, long e01, long e02, long e12) {
        x.estimate(0, 1).is(e01);
        x.estimate(0, 2).is(e02);
        x.estimate(1, 2).is(e12);
    }

    // ---- the description: estimates in general

    private static void estimatesAreZeroAtFirst() {
        Sentences.names(0, "Each pair has an estimate in thousandths, a whole number of 0 or more, 0 at first.");
        for (int nodes = 2; nodes <= 5; nodes++) {
            Subject x = Subject.ring(nodes).withAllDemands(nodes, MOST_DEMAND);
            x.measure();
            for (int s = 0; s < nodes; s++) {
                for (int t = 0; t < nodes; t++) {
                    if (s != t) {
                        x.estimate(s, t).is(0);
                    }
                }
            }
        }
        Subject one = Subject.oneLink(1);
        one.estimate(0, 1).is(1000);
        one.estimate(1, 0).is(0);
        one.setMeasuredLoad(0, 0);
        one.fitLinks(50);
        one.estimate(0, 1).is(0);
    }

    private static void gravityRoundsDown() {
        Sentences.names(0, "Every division of estimates rounds down");
        // 1 * 1 * 1000 by 1 and the other demand
        int[][] cases = {{0, 1000}, {1, 500}, {2, 333}, {499, 2}, {500, 1}, {998, 1}, {999, 1}, {1000, 0}};
        for (int[] one : cases) {
            Subject x = Subject.islands(1, one[0]);
            x.applyGravity().is((one[1] > 0 ? 1 : 0) + (one[0] > 0 ? 1 : 0));
            x.estimate(0, 1).is(one[1]);
        }
    }

    private static void fittingRoundsDown() {
        Sentences.names(0, "Every division of estimates rounds down");
        Subject x = Subject.line(4);
        for (int t = 1; t < 4; t++) {
            x.setDemand(0, t, 1);
        }
        x.measure();
        x.applyGravity().is(3);
        // three of 1000 to a load of 2: 666 and two thirds each
        x.setMeasuredLoad(0, 2);
        x.fitLinks(1).is(1);
        x.estimate(0, 1).is(666);
        // then links 1 and 2 bring two of them back to 1000
        x.estimate(0, 2).is(1000);
        x.estimate(0, 3).is(1000);
        // 666, 1000 and 1000 to an out total of 3: 749 and 1125 twice, then in totals of 1
        x.fitTotals(1).is(1);
        x.estimate(0, 1).is(1000);
        x.estimate(0, 2).is(1000);
    }

    private static void gravityHasExactProducts() {
        Sentences.names(0, "with exact products");
        Subject x = Subject.hub().withAllDemands(5, MOST_DEMAND);
        x.measure();
        x.applyGravity().is(20);
        x.estimate(4, 3).is(scaled(4 * MOST_DEMAND, 4 * MOST_DEMAND, 20 * MOST_DEMAND));
        x.setDemand(4, 3, MOST_DEMAND - 1);
        x.measure();
        x.applyGravity().is(20);
        x.estimate(4, 3).is(scaled(4 * MOST_DEMAND - 1, 4 * MOST_DEMAND - 1, 20 * MOST_DEMAND - 1));
        x.estimate(4, 0).is(scaled(4 * MOST_DEMAND - 1, 4 * MOST_DEMAND, 20 * MOST_DEMAND - 1));
        x.estimate(0, 1).is(scaled(4 * MOST_DEMAND, 4 * MOST_DEMAND, 20 * MOST_DEMAND - 1));
    }

    /** The products come to some 10^16, which neither an int nor a double holds. */
    private static void fittingHasExactProducts() {
        Sentences.names(0, "Every division of estimates rounds down, with exact products.");
        Subject x = Subject.line(3);
        x.setDemand(0, 1, MOST_DEMAND);
        x.setDemand(0, 2, MOST_DEMAND - 1);
        x.measure();
        x.applyGravity().is(2);
        long e01 = 9999000;
        long e02 = 9998000;
        int[][] loads = {{MOST_LOAD, 99991}, {MOST_LOAD - 1, 100003}, {MOST_LOAD, MOST_LOAD},
            {MOST_LOAD - 7, MOST_LOAD - 11}, {123457, MOST_LOAD - 1}, {MOST_LOAD - 2, 98765}};
        for (int[] load : loads) {
            x.estimate(0, 1).is(e01);
            x.estimate(0, 2).is(e02);
            x.setMeasuredLoad(0, load[0]);
            x.setMeasuredLoad(1, load[1]);
            x.fitLinks(1);
            long sum = e01 + e02;
            e01 = scaled(e01, load[0], sum);
            e02 = scaled(e02, load[0], sum);
            e02 = scaled(e02, load[1], e02);
        }
        x.estimate(0, 1).is(e01);
        x.estimate(0, 2).is(e02);
        // the same estimates by the totals
        x.fitTotals(1).is(2);
        long sum = e01 + e02;
        x.estimate(0, 1).is(scaled(scaled(e01, 2 * MOST_DEMAND - 1, sum), MOST_DEMAND,
                scaled(e01, 2 * MOST_DEMAND - 1, sum)));
        x.estimate(0, 2).is(9998000);
    }

    private static void pairsWithoutARoute() {
        Sentences.names(0, "Pairs without a route have the estimate 0 after each of the following computations.");
        Subject x = Subject.islands(5, 7);
        x.setDemand(0, 3, MOST_DEMAND);
        x.measure().is(12);
        // out(0) * in(3) is above 0, but no path leads from 0 to 3
        x.applyGravity().is(2);
        onlyIslands(x);
        x.fitTotals(1).is(2);
        onlyIslands(x);
        x.setMeasuredLoad(0, 100);
        x.fitLinks(1).is(1);
        onlyIslands(x);
        Subject none = Subject.ofNodes(5).withAllDemands(5, MOST_DEMAND);
        none.measure();
        none.applyGravity().is(0);
        none.fitTotals(50).is(0);
        none.fitLinks(50).is(0);
        none.estimate(0, 4).is(0);
    }

    private static void onlyIslands(Subject x) {
        for (int s = 0; s < 4; s++) {
            for (int t = 0; t < 4; t++) {
                boolean island = s % 2 == 0 && t == s + 1;
                if (s != t && !island) {
                    x.estimate(s, t).is(0);
                }
            }
        }
    }

    private static void pairsThatGetARoute() {
        Sentences.names(0, "Pairs without a route have the estimate 0");
        Subject x = Subject.islands(5, 5);
        x.applyGravity().is(2);
        x.addLink(1, 2, 1);
        x.routeLength(0, 3).is(3);
        x.estimate(0, 3).is(0);
        // what is 0 stays 0 by fitting, and only a new gravity gives it a value
        x.fitTotals(1).is(2);
        x.estimate(0, 3).is(0);
        x.fitLinks(1).is(0);
        x.estimate(0, 3).is(0);
        x.applyGravity().is(3);
        x.estimate(0, 3).is(2500);
    }

    // ---- the description: gravity and fitting

    private static void gravityTakesMeasuredTotals() {
        Sentences.names(0, "Gravity: the estimate of a pair (s, t) with a route is out(s) * in(t) * 1000 / total, where "
                + "out(s) and in(t) are the measured totals and total is the sum of all out totals");
        Subject x = Subject.line(3);
        x.setDemand(0, 1, 10);
        x.setDemand(0, 2, 4);
        x.setDemand(1, 2, 7);
        x.applyGravity().is(0);
        x.measure();
        x.setDemand(0, 1, MOST_DEMAND);
        x.setDemand(1, 2, 0);
        x.applyGravity().is(3);
        estimates(x, 14 * 10 * 1000 / 21, 14 * 11 * 1000 / 21, 7 * 11 * 1000 / 21);
        // nor do loads by hand, measured pairs or new routes count
        x.setMeasuredLoad(0, 1);
        x.measurePair(0, 1);
        x.addLink(2, 0, 1);
        x.applyGravity().is(3);
        estimates(x, 6666, 7333, 3666);
        // a pair without a demand of its own has an estimate by its nodes' totals
        Subject y = Subject.line(3);
        y.setDemand(0, 1, 5);
        y.setDemand(1, 2, 5);
        y.measure();
        y.applyGravity().is(3);
        estimates(y, 2500, 2500, 2500);
    }

    private static void gravityOfNothing() {
        Sentences.names(0, "it is 0 if total is 0.");
        Subject x = Subject.oneLink(MOST_DEMAND);
        x.estimate(0, 1).is(9999000);
        x.setDemand(0, 1, 0);
        x.measure().is(0);
        x.applyGravity().is(0);
        x.estimate(0, 1).is(0);
        x.setDemand(0, 1, 1);
        x.measure().is(1);
        x.applyGravity().is(1);
        x.estimate(0, 1).is(1000);
        Subject full = Subject.ring(5);
        full.applyGravity().is(0);
        full.estimate(4, 3).is(0);
    }

    private static void rowsOfNothing() {
        Sentences.names(0, "with r being the sum of the estimates of all pairs with source s: if r is above 0, each of "
                + "these estimates e becomes e * out(s) * 1000 / r.");
        Subject x = Subject.ring(5).withAllDemands(5, 3);
        x.measure();
        x.fitTotals(50).is(0);
        x.estimate(0, 1).is(0);
        // an out total of 0 makes its row 0, and there it stays
        Subject y = Subject.islands(7, 8);
        y.applyGravity();
        y.setDemand(0, 1, 0);
        y.measure();
        y.fitTotals(1).is(2);
        y.estimate(0, 1).is(0);
        y.estimate(2, 3).is(8000);
        y.setDemand(0, 1, 7);
        y.measure();
        y.fitTotals(50).is(0);
        y.estimate(0, 1).is(0);
    }

    private static void rowsOfOneThousandth() {
        Sentences.names(0, "if r is above 0, each of these estimates e becomes e * out(s) * 1000 / r");
        Subject x = Subject.islands(1, 999);
        x.applyGravity().is(2);
        x.estimate(0, 1).is(1);
        x.fitTotals(1).is(2);
        x.estimate(0, 1).is(1000);
        x.estimate(2, 3).is(999000);
    }

    private static void columnsOfNothing() {
        Sentences.names(0, "with c being the sum of the estimates of all pairs with target t: if c is above 0, each of "
                + "these estimates e becomes e * in(t) * 1000 / c.");
        Subject x = example();
        x.setDemand(0, 1, 0);
        x.measure();
        // in(1) is 0 while out(0) is not: its column becomes 0, and there it stays
        x.fitTotals(1).is(3);
        x.estimate(0, 1).is(0);
        x.setDemand(0, 1, 10);
        x.measure();
        x.fitTotals(50);
        x.estimate(0, 1).is(0);
        x.estimate(0, 2).isNoError();
    }

    /** x(0, 1) is 4 and x(3, 2) is 9999: of what node 0 sends, column 1 gets one thousandth. */
    private static void columnsOfOneThousandth() {
        Sentences.names(0, "if c is above 0, each of these estimates e becomes e * in(t) * 1000 / c");
        Subject x = Subject.ofNodes(4);
        x.addLink(0, 1, 1);
        x.addLink(0, 2, 1);
        x.addLink(3, 2, 1);
        x.setDemand(0, 1, 4);
        x.setDemand(3, 2, MOST_DEMAND);
        x.measure();
        x.applyGravity().is(3);
        x.estimate(0, 1).is(1);
        x.estimate(0, 2).is(3998);
        // the row, 1 and 3998 by 3999 to 4000, stays; column 1 is then 1, and column 2 10002998
        x.fitTotals(1).is(3);
        x.estimate(0, 1).is(4000);
        x.estimate(0, 2).is(scaled(3998, 9999, 10002998));
        x.estimate(3, 2).is(scaled(9999000, 9999, 10002998));
    }

    private static void columnsComeAfterRows() {
        Sentences.names(0, "Then for each node t by ascending number");
        Subject x = example();
        x.fitTotals(1).is(3);
        // rows: 6666 and 7333 by 13999 to 14000, 3666 to 7000; columns: 6666 to 10000, then
        // 7333 and 7000 by 14333 to 11000: the columns are right, the first row is not
        estimates(x, 10000, 5627, 5372);
        x.fitTotals(1).is(2);
        estimates(x, 10000, 4605, 6394);
    }

    private static void totalsOfEveryNode() {
        Sentences.names(0, "Fitting to totals, once: for each node s by ascending number");
        for (int a = 0; a < 5; a++) {
            for (int b = 0; b < 5; b++) {
                for (int c = 0; c < 5; c++) {
                    if (a != b && a != c && b != c) {
                        exampleOver(a, b, c);
                    }
                }
            }
        }
    }

    /** The example with other nodes than 0, 1 and 2, in the smallest network that has them. */
    private static void exampleOver(int a, int b, int c) {
        Subject x = Subject.ofNodes(1 + Math.max(a, Math.max(b, c)));
        x.addLink(a, b, 1);
        x.addLink(b, c, 1);
        x.setDemand(a, b, 10);
        x.setDemand(a, c, 4);
        x.setDemand(b, c, 7);
        x.measure().is(21);
        x.applyGravity().is(3);
        x.fitTotals(1).is(3);
        x.estimate(a, b).is(10000);
        x.estimate(a, c).is(5627);
        x.estimate(b, c).is(5372);
        x.fitTotals(1).is(2);
        x.estimate(a, c).is(4605);
        x.estimate(b, c).is(6394);
    }

    private static void linksOfNothing() {
        Sentences.names(0, "with l being the sum of the estimates of all pairs whose route uses the link: if l is above "
                + "0, each of these estimates e becomes e * (measured load) * 1000 / l.");
        Subject x = Subject.line(3);
        x.setMeasuredLoad(0, MOST_LOAD);
        x.fitLinks(50).is(0);
        estimates(x, 0, 0, 0);
        // a load of 0 makes the estimates 0, and there they stay
        Subject y = example();
        y.setMeasuredLoad(1, 0);
        y.fitLinks(1).is(2);
        estimates(y, 6666, 0, 0);
        y.setMeasuredLoad(1, 11);
        y.fitLinks(1).is(1);
        estimates(y, 14000, 0, 0);
        // an unused link has nothing to fit, whatever its load is
        Subject z = Subject.oneLink(5);
        z.addLink(0, 1, 1);
        z.setMeasuredLoad(1, MOST_LOAD);
        z.fitLinks(50).is(0);
        z.estimate(0, 1).is(5000);
    }

    private static void linksOfOneThousandth() {
        Sentences.names(0, "if l is above 0, each of these estimates e becomes e * (measured load) * 1000 / l");
        Subject x = Subject.islands(1, 999);
        x.applyGravity();
        x.estimate(0, 1).is(1);
        x.fitLinks(1).is(2);
        x.estimate(0, 1).is(1000);
        x.setMeasuredLoad(0, MOST_LOAD);
        x.fitLinks(1).is(1);
        x.estimate(0, 1).is(199980000);
    }

    private static void linksComeInOrder() {
        Sentences.names(0, "Fitting to links, once: for each link by ascending number");
        // link 0 is the second of the route
        Subject x = Subject.ofNodes(3);
        x.addLink(1, 2, 1);
        x.addLink(0, 1, 1);
        x.setDemand(0, 2, 1);
        x.measure();
        x.applyGravity();
        x.setMeasuredLoad(0, 3);
        x.setMeasuredLoad(1, 5);
        x.fitLinks(1).is(1);
        x.estimate(0, 2).is(5000);
        // with twelve links the last one comes last; a lower one with a load of 0 would end all
        Subject y = Subject.ofNodes(4);
        for (int link = 0; link < 9; link++) {
            y.addLink(3, 2, 99);
        }
        y.addLink(1, 2, 1);
        y.addLink(2, 3, 1);
        y.addLink(0, 1, 1);
        y.setDemand(0, 3, 1);
        y.measure();
        y.applyGravity().is(1);
        y.setMeasuredLoad(9, 2);
        y.setMeasuredLoad(10, 3);
        y.setMeasuredLoad(11, 4);
        y.fitLinks(1).is(1);
        y.estimate(0, 3).is(4000);
        y.setMeasuredLoad(9, 0);
        y.fitLinks(1).is(1);
        y.estimate(0, 3).is(0);
    }

    // ---- promise 24

    private static void promise24Replaces() {
        Sentences.names(24, "Replaces all estimates by those of the gravity model.");
        Subject x = example();
        x.setMeasuredLoad(0, MOST_LOAD);
        x.fitLinks(50);
        x.applyGravity().is(3);
        estimates(x, 6666, 7333, 3666);
        x.setDemand(0, 1, 0);
        x.setDemand(0, 2, 0);
        x.measure();
        x.applyGravity().is(1);
        estimates(x, 0, 0, 7000);
        x.setDemand(1, 2, 0);
        x.measure();
        x.applyGravity().is(0);
        estimates(x, 0, 0, 0);
    }

    private static void promise24Returns() {
        Sentences.names(24, "Returns the number of estimates above 0.");
        new Subject().applyGravity().is(0);
        Subject ring = Subject.ring(5).withAllDemands(5, 1);
        ring.applyGravity().is(0);
        ring.measure();
        ring.applyGravity().is(20);
        ring.applyGravity().is(20);
        // an estimate of one thousandth counts, one that is rounded down to 0 does not
        Subject.islands(1, 999).applyGravity().is(2);
        Subject.islands(1, 1000).applyGravity().is(1);
        Subject.islands(0, 1).applyGravity().is(1);
        Subject.islands(0, 0).applyGravity().is(0);
    }

    // ---- promises 25 and 26

    /** Node 0 has all of its total in x(0, 1), so that the estimate of (0, 2) goes to 0 but slowly. */
    private static Subject slowTotals() {
        Subject x = Subject.ofNodes(4);
        x.addLink(0, 1, 1);
        x.addLink(0, 2, 1);
        x.addLink(3, 2, 1);
        x.setDemand(0, 1, 5000);
        x.setDemand(3, 2, 5000);
        x.measure();
        x.applyGravity();
        return x;
    }

    private static void promise25Times() {
        Sentences.names(25, "Fits the estimates to the totals a number of times.");
        Subject single = slowTotals();
        long before = single.estimate(0, 2).got();
        for (int times = 1; times <= 50; times++) {
            single.fitTotals(1).isNoError();
            long now = single.estimate(0, 2).got();
            // each time changes it, so that one time more or less is seen
            Sentences.due("estimate(0, 2) is less than before", now < before ? 1 : 0, 1);
            Subject often = slowTotals();
            often.fitTotals(times).isNoError();
            often.estimate(0, 2).is(now);
            often.estimate(3, 2).is(single.estimate(3, 2).got());
            before = now;
        }
    }

    private static void promise25Range() {
        Sentences.names(25, "`times`: 1 to 50");
        Subject x = example();
        for (int times : Edges.outside(1, 50)) {
            x.fitTotals(times).is(TrafficMatrix.BAD_VALUE);
        }
        estimates(x, 6666, 7333, 3666);
        x.fitTotals(1).is(3);
        example().fitTotals(50).is(3);
    }

    private static void promise25Returns() {
        Sentences.names(25, "Returns the number of pairs whose estimate is not what it was before the call");
        Subject x = Subject.line(3);
        x.setDemand(0, 1, 10);
        x.measure();
        x.applyGravity().is(1);
        x.setDemand(0, 2, 4);
        x.setDemand(1, 2, 7);
        x.measure();
        // 10000 becomes 14000 by its row and 10000 again by its column
        x.fitTotals(1).is(0);
        x.fitTotals(50).is(0);
        x.estimate(0, 1).is(10000);
        Subject all = Subject.ring(5).withAllDemands(5, 1);
        all.measure();
        all.applyGravity();
        all.fitTotals(1).is(20);
        all.fitTotals(1).is(0);
        Subject.ofNodes(2).fitTotals(1).is(0);
        // of 10000, 5627 and 5372 the first comes back by its column
        Subject some = example();
        some.fitTotals(1).is(3);
        some.fitTotals(1).is(2);
    }

    /** Link 1 leaves nothing of the load of link 0 to (0, 1), so that its estimate goes to 0 but slowly. */
    private static Subject slowLinks() {
        Subject x = Subject.line(3);
        x.setDemand(0, 1, 5000);
        x.setDemand(0, 2, 5000);
        x.measure();
        x.applyGravity();
        x.setMeasuredLoad(0, 5000);
        return x;
    }

    private static void promise26Times() {
        Sentences.names(26, "Fits the estimates to the links a number of times.");
        Subject single = slowLinks();
        long before = single.estimate(0, 1).got();
        for (int times = 1; times <= 50; times++) {
            single.fitLinks(1).is(1);
            long now = single.estimate(0, 1).got();
            Sentences.due("estimate(0, 1) is less than before", now < before ? 1 : 0, 1);
            Subject often = slowLinks();
            often.fitLinks(times).is(1);
            often.estimate(0, 1).is(now);
            often.estimate(0, 2).is(5000000);
            before = now;
        }
    }

    private static void promise26Range() {
        Sentences.names(26, "`times`: 1 to 50");
        Subject x = example();
        x.setMeasuredLoad(0, 30);
        for (int times : Edges.outside(1, 50)) {
            x.fitLinks(times).is(TrafficMatrix.BAD_VALUE);
        }
        estimates(x, 6666, 7333, 3666);
        x.fitLinks(1).is(3);
        Subject y = example();
        y.setMeasuredLoad(0, 30);
        y.fitLinks(50).is(3);
    }

    private static void promise26Returns() {
        Sentences.names(26, "Returns the number of pairs whose estimate is not what it was before the call");
        Subject x = Subject.line(3);
        x.setDemand(0, 2, 3);
        x.measure();
        x.applyGravity().is(1);
        // 3000 becomes 5000 by link 0 and 3000 again by link 1
        x.setMeasuredLoad(0, 5);
        x.fitLinks(1).is(0);
        x.fitLinks(50).is(0);
        x.estimate(0, 2).is(3000);
        x.setMeasuredLoad(1, 4);
        x.fitLinks(1).is(1);
        x.fitLinks(1).is(0);
        example().fitLinks(1).is(0);
        Subject.ofNodes(2).fitLinks(1).is(0);
        Subject all = Subject.ring(5).withAllDemands(5, 1);
        all.measure();
        all.applyGravity();
        all.setMeasuredLoad(4, 0);
        // ten pairs of 800 over link 4 become 0, and the ten others change with links 0 to 3
        all.fitLinks(1).is(20);
    }

    // ---- promises 27 to 29

    private static void promise27() {
        Sentences.names(27, "Returns its estimate; NO_VALUE if a node does not exist or both are the same.");
        Subject x = Subject.oneLink(MOST_DEMAND);
        x.estimate(0, 1).is(9999000);
        x.estimate(1, 0).is(0);
        x.estimate(0, 0).is(TrafficMatrix.NO_VALUE);
        x.estimate(1, 1).is(TrafficMatrix.NO_VALUE);
        for (int node : Edges.outside(0, 1)) {
            x.estimate(node, 1).is(TrafficMatrix.NO_VALUE);
            x.estimate(0, node).is(TrafficMatrix.NO_VALUE);
            x.estimate(node, node).is(TrafficMatrix.NO_VALUE);
        }
        // the greatest and the least one
        x.setMeasuredLoad(0, MOST_LOAD);
        x.fitLinks(1).is(1);
        x.estimate(0, 1).is(199980000);
        x.setMeasuredLoad(0, 0);
        x.fitLinks(1).is(1);
        x.estimate(0, 1).is(0);
    }

    private static void promise28Residual() {
        Sentences.names(28, "Returns the residual of a link: the sum of the estimates of all pairs whose route uses the "
                + "link, minus its measured load * 1000.");
        Subject x = Subject.oneLink(MOST_DEMAND);
        x.residual(0).is(0);
        x.setMeasuredLoad(0, MOST_LOAD);
        x.residual(0).is(9999000 - 199980000);
        x.fitLinks(1);
        x.residual(0).is(0);
        x.setMeasuredLoad(0, 0);
        x.residual(0).is(199980000);
        // a link that no route uses
        x.addLink(0, 1, 1).is(1);
        x.residual(1).is(0);
        x.setMeasuredLoad(1, MOST_LOAD);
        x.residual(1).is(-199980000);
        // the routes are those of now
        x.setMetric(0, 2);
        x.residual(0).is(0);
        x.residual(1).is(0);
        Subject hub = Subject.hub().withAllDemands(5, MOST_DEMAND);
        hub.measure();
        hub.applyGravity();
        hub.residual(0).is(13L * 7999200 - 13L * MOST_DEMAND * 1000);
    }

    private static void promise28Returns() {
        Sentences.names(28, "Returns the residual; NO_VALUE if the link does not exist.");
        Subject none = new Subject();
        none.residual(0).is(TrafficMatrix.NO_VALUE);
        Subject x = Subject.ofNodes(2);
        for (int link = 0; link < 12; link++) {
            x.residual(link).is(TrafficMatrix.NO_VALUE);
            x.addLink(1, 0, 1);
            x.residual(link).is(0);
        }
        for (int link : Edges.outside(0, 11)) {
            x.residual(link).is(TrafficMatrix.NO_VALUE);
        }
    }

    /** Twelve pairs, each alone on a link, with the greatest estimates: more than an int holds. */
    private static void promise29AddsUp() {
        Sentences.names(29, "Adds up the absolute values of estimate - demand * 1000 for all pairs with a route.");
        Subject x = Subject.ofNodes(4).withAllDemands(4, MOST_DEMAND);
        x.totalError().is(0);
        for (int s = 0; s < 4; s++) {
            for (int hops = 1; hops < 4; hops++) {
                x.addLink(s, (s + hops) % 4, 1);
            }
        }
        x.totalError().is(12L * 9999000);
        x.measure();
        x.applyGravity();
        for (int link = 0; link < 12; link++) {
            x.setMeasuredLoad(link, MOST_LOAD);
        }
        x.fitLinks(1);
        x.totalError().is(12L * (199980000 - 9999000));
        x.withAllDemands(4, 0);
        x.totalError().is(12L * 199980000);
        // above and below do not cancel out
        Subject y = Subject.islands(10, 10);
        y.applyGravity();
        y.totalError().is(10000);
        y.setMeasuredLoad(0, 13);
        y.setMeasuredLoad(1, 7);
        y.fitLinks(1);
        y.totalError().is(6000);
        // a pair without a route does not count
        y.setDemand(0, 3, MOST_DEMAND);
        y.setDemand(1, 0, MOST_DEMAND);
        y.totalError().is(6000);
    }

    private static void promise29Returns() {
        Sentences.names(29, "Returns the sum.");
        new Subject().totalError().is(0);
        Subject.oneLink(MOST_DEMAND).totalError().is(0);
        Subject.ring(5).totalError().is(0);
        Subject.ring(5).withAllDemands(5, MOST_DEMAND).totalError().is(20L * 9999000);
        Subject x = Subject.islands(1, 2);
        x.applyGravity();
        // 333 and 1333 for 1000 and 2000
        x.totalError().is(667 + 667);
    }
}
