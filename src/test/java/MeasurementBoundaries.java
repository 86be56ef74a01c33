import java.util.List;
import java.util.function.Consumer;

/** Demands and measurements: promises 7 to 15, and what the description says of them. */
final class MeasurementBoundaries {
    private static final int MOST_DEMAND = 9999;
    private static final int MOST_LOAD = 199980;

    private MeasurementBoundaries() {
    }

    static void run() {
        demandsAreZeroAtFirst();
        demandsWithoutARoute();
        carriedLoadsAreSums();
        measuredValuesAtFirst();
        measuredValuesStay();
        measuredValuesStayWithDemandsAndMetrics();
        promise7Sets();
        promise7Value();
        promise8Returns();
        promise9Measures();
        promise9WithoutLinks();
        promise9OnlyPairsWithARoute();
        promise9Returns();
        promise10Sets();
        promise10Value();
        promise11Returns();
        promise12Returns();
        promise13Returns();
        promise14Measures();
        promise14Returns();
        promise15Forgets();
        promise15Returns();
    }

    // ---- the description

    private static void demandsAreZeroAtFirst() {
        Sentences.names(0, "Each pair has a demand from 0 to 9999, 0 at first.");
        for (int nodes = 2; nodes <= 5; nodes++) {
            Subject x = Subject.ofNodes(nodes);
            for (int s = 0; s < nodes; s++) {
                for (int t = 0; t < nodes; t++) {
                    if (s != t) {
                        x.setDemand(s, t, -1).is(TrafficMatrix.BAD_VALUE);
                        x.setDemand(s, t, MOST_DEMAND + 1).is(TrafficMatrix.BAD_VALUE);
                        x.setDemand(s, t, MOST_DEMAND).is(0);
                        x.setDemand(s, t, 10 * s + t).is(MOST_DEMAND);
                    }
                }
            }
            for (int s = 0; s < nodes; s++) {
                for (int t = 0; t < nodes; t++) {
                    if (s != t) {
                        x.setDemand(s, t, 0).is(10 * s + t);
                    }
                }
            }
        }
    }

    private static void demandsWithoutARoute() {
        Sentences.names(0, "The demand of a pair without a route is kept but carried by nothing.");
        Subject x = Subject.ofNodes(3);
        x.addLink(0, 1, 1);
        x.setDemand(0, 1, 1).is(0);
        x.setDemand(0, 2, MOST_DEMAND).is(0);
        x.setDemand(1, 2, 7).is(0);
        x.carriedLoad(0).is(1);
        x.measure().is(1);
        x.measuredLoad(0).is(1);
        x.outTotal(0).is(1);
        x.inTotal(2).is(0);
        x.totalError().is(1000);
        x.addLink(1, 2, 1);
        x.carriedLoad(0).is(1 + MOST_DEMAND);
        x.carriedLoad(1).is(7 + MOST_DEMAND);
        x.measure().is(8 + MOST_DEMAND);
        x.setDemand(0, 2, 0).is(MOST_DEMAND);
    }

    private static void carriedLoadsAreSums() {
        Sentences.names(0, "The carried load of a link is the sum of the demands of all pairs whose route uses the link.");
        Subject hub = Subject.hub().withAllDemands(5, MOST_DEMAND);
        // the most that a link can carry: 13 pairs
        hub.carriedLoad(0).is(13 * MOST_DEMAND);
        hub.setDemand(4, 3, 0);
        hub.carriedLoad(0).is(12 * MOST_DEMAND);
        hub.addLink(0, 1, 1).is(7);
        hub.carriedLoad(7).is(0);
        Subject none = Subject.ring(5);
        for (int link = 0; link < 5; link++) {
            none.carriedLoad(link).is(0);
        }
    }

    private static void measuredValuesAtFirst() {
        Sentences.names(0, "There are three kinds of measured values: a load for each link, an out total and an in "
                + "total for each node (all 0 at first), and values of measured pairs (none at first).");
        Subject x = Subject.ring(5).withAllDemands(5, MOST_DEMAND);
        for (int node = 0; node < 5; node++) {
            x.measuredLoad(node).is(0);
            x.outTotal(node).is(0);
            x.inTotal(node).is(0);
            for (int t = 0; t < 5; t++) {
                if (t != node) {
                    x.forgetPair(node, t).is(TrafficMatrix.NONE);
                }
            }
        }
        x.measure();
        x.forgetPair(0, 1).is(TrafficMatrix.NONE);
        x.measurePair(0, 1).is(MOST_DEMAND);
        x.forgetPair(0, 1).is(MOST_DEMAND);
    }

    /** Each method that does not say so, called in a way that it is not refused. */
    private static void measuredValuesStay() {
        Sentences.names(0, "They change only by the methods that say so");
        List<Consumer<Subject>> calls = List.of(
                x -> x.setMetric(11, 1).isNoError(), x -> x.setDemand(0, 1, 5).isNoError(),
                x -> x.routeLength(0, 3).isNoError(), x -> x.routeLink(0, 3, 2).isNoError(),
                x -> x.carriedLoad(0).isNoError(), x -> x.measuredLoad(0).isNoError(),
                x -> x.outTotal(0).isNoError(), x -> x.inTotal(1).isNoError(),
                x -> x.rank().isNoError(), x -> x.isConsistent().isNoError(),
                x -> x.isIdentifiable(0, 2).isNoError(), x -> x.identifiableCount().isNoError(),
                x -> x.identifiedNumerator(0, 1).isNoError(), x -> x.identifiedDenominator(0, 1).isNoError(),
                x -> x.bestPair().isNoError(), x -> x.pairsOnLink(0).isNoError(),
                x -> x.applyGravity().isNoError(), x -> x.fitTotals(50).isNoError(),
                x -> x.fitLinks(50).isNoError(), x -> x.estimate(0, 3).isNoError(),
                x -> x.residual(11).is(0), x -> x.totalError().isNoError());
        for (Consumer<Subject> call : calls) {
            Subject x = StartingPoint.FULL.make();
            call.accept(x);
            Sentences.sameLines(State.ofMeasurements(x), State.ofMeasurements(StartingPoint.FULL.make()));
        }
        // of those that say so, each changes its own kind alone
        Subject x = StartingPoint.FULL.make();
        long out = x.outTotal(0).got();
        long load = x.measuredLoad(0).got();
        x.setMeasuredLoad(1, 4);
        x.measurePair(0, 2);
        x.measuredLoad(0).is(load);
        x.outTotal(0).is(out);
        x.measure();
        x.measuredLoad(0).is(load - 2);
        x.outTotal(0).is(out - 2);
        x.forgetPair(0, 1).is(101);
        x.measuredLoad(0).is(load - 2);
        x.outTotal(0).is(out - 2);
        x.forgetPair(0, 2).is(102);
    }

    private static void measuredValuesStayWithDemandsAndMetrics() {
        Sentences.names(0, "in particular, later changes of demands or metrics do not change them.");
        Subject x = Subject.line(3).withAllDemands(3, 50);
        x.addLink(0, 2, 99);
        x.measure().is(150);
        x.measurePair(0, 2).is(50);
        x.setDemand(0, 2, 0).is(50);
        x.setMetric(2, 1).is(99);
        x.addLink(0, 1, 1).is(3);
        x.measuredLoad(0).is(100);
        x.measuredLoad(1).is(100);
        x.measuredLoad(2).is(0);
        x.measuredLoad(3).is(0);
        x.outTotal(0).is(100);
        x.outTotal(1).is(50);
        x.inTotal(2).is(100);
        x.identifiedNumerator(0, 2).is(TrafficMatrix.NO_VALUE);
        x.setMeasuredLoad(2, 50).is(0);
        x.identifiedNumerator(0, 2).is(50);
        x.forgetPair(0, 2).is(50);
    }

    // ---- promises 7 and 8

    private static void promise7Sets() {
        Sentences.names(7, "Sets the demand of a pair.");
        Subject x = Subject.ofNodes(5);
        x.setDemand(4, 3, 1).is(0);
        x.setDemand(3, 4, 2).is(0);
        x.setDemand(0, 4, 3).is(0);
        x.setDemand(4, 0, 4).is(0);
        // the same demand once more
        x.setDemand(4, 3, 1).is(1);
        x.setDemand(3, 4, 0).is(2);
        x.setDemand(0, 4, 0).is(3);
        x.setDemand(4, 0, 0).is(4);
        x.setDemand(4, 3, 0).is(1);
    }

    private static void promise7Value() {
        Sentences.names(7, "`value`: 0 to 9999");
        Subject x = Subject.ofNodes(2);
        x.setDemand(1, 0, 77).is(0);
        for (int value : Edges.outside(0, MOST_DEMAND)) {
            x.setDemand(1, 0, value).is(TrafficMatrix.BAD_VALUE);
        }
        x.setDemand(1, 0, 0).is(77);
        x.setDemand(1, 0, MOST_DEMAND).is(0);
        x.setDemand(1, 0, MOST_DEMAND - 1).is(MOST_DEMAND);
        x.setDemand(1, 0, 1).is(MOST_DEMAND - 1);
        x.setDemand(1, 0, 0).is(1);
    }

    private static void promise8Returns() {
        Sentences.names(8, "Returns its carried load");
        Subject x = Subject.line(3);
        x.carriedLoad(0).is(0);
        x.setDemand(0, 1, MOST_DEMAND);
        x.carriedLoad(0).is(MOST_DEMAND);
        x.setDemand(0, 2, 1);
        x.carriedLoad(0).is(MOST_DEMAND + 1);
        x.carriedLoad(1).is(1);
        x.setDemand(2, 0, MOST_DEMAND);
        x.carriedLoad(0).is(MOST_DEMAND + 1);
        // it follows the demands, not the measured load
        x.setMeasuredLoad(0, MOST_LOAD);
        x.carriedLoad(0).is(MOST_DEMAND + 1);
    }

    // ---- promises 9 to 13

    private static void promise9Measures() {
        Sentences.names(9, "Measures all links and nodes: the measured load of each link becomes its carried load, "
                + "the out total of each node becomes the sum of the demands of all pairs that have a route and this "
                + "source, and the in total the same for the target.");
        Subject x = Subject.hub().withAllDemands(5, MOST_DEMAND);
        x.addLink(0, 1, 99).is(7);
        x.setMeasuredLoad(0, 1);
        x.setMeasuredLoad(7, MOST_LOAD);
        x.measure();
        x.measuredLoad(0).is(13 * MOST_DEMAND);
        x.measuredLoad(7).is(0);
        for (int node = 0; node < 5; node++) {
            x.outTotal(node).is(4 * MOST_DEMAND);
            x.inTotal(node).is(4 * MOST_DEMAND);
        }
        x.withAllDemands(5, 0).measure();
        for (int link = 0; link < 8; link++) {
            x.measuredLoad(link).is(0);
        }
        for (int node = 0; node < 5; node++) {
            x.outTotal(node).is(0);
            x.inTotal(node).is(0);
        }
    }

    private static void promise9WithoutLinks() {
        Sentences.names(9, "Measures all links and nodes");
        for (int nodes = 2; nodes <= 5; nodes++) {
            Subject x = Subject.ofNodes(nodes).withAllDemands(nodes, MOST_DEMAND);
            x.measure().is(0);
            x.outTotal(nodes - 1).is(0);
            x.inTotal(0).is(0);
            x.measuredLoad(0).is(TrafficMatrix.NO_SUCH_LINK);
        }
    }

    private static void promise9OnlyPairsWithARoute() {
        Sentences.names(9, "all pairs that have a route and this source, and the in total the same for the target");
        Subject x = Subject.line(5).withAllDemands(5, 1);
        x.measure().is(10);
        for (int node = 0; node < 5; node++) {
            x.outTotal(node).is(4 - node);
            x.inTotal(node).is(node);
        }
    }

    private static void promise9Returns() {
        Sentences.names(9, "Returns the sum of all out totals.");
        new Subject().measure().is(0);
        Subject.ring(5).measure().is(0);
        Subject.ring(5).withAllDemands(5, MOST_DEMAND).measure().is(20 * MOST_DEMAND);
        Subject.ring(2).withAllDemands(2, MOST_DEMAND).measure().is(2 * MOST_DEMAND);
    }

    private static void promise10Sets() {
        Sentences.names(10, "Sets a measured load by hand.");
        Subject x = Subject.ring(3);
        x.setMeasuredLoad(1, 5).is(0);
        x.measuredLoad(0).is(0);
        x.measuredLoad(1).is(5);
        x.measuredLoad(2).is(0);
        x.setMeasuredLoad(1, 5).is(5);
        x.carriedLoad(1).is(0);
        x.outTotal(1).is(0);
    }

    private static void promise10Value() {
        Sentences.names(10, "`value`: 0 to 199980");
        Subject x = Subject.line(2);
        x.setMeasuredLoad(0, 77).is(0);
        for (int value : Edges.outside(0, MOST_LOAD)) {
            x.setMeasuredLoad(0, value).is(TrafficMatrix.BAD_VALUE);
        }
        x.setMeasuredLoad(0, MOST_LOAD).is(77);
        x.setMeasuredLoad(0, MOST_LOAD - 1).is(MOST_LOAD);
        x.setMeasuredLoad(0, 0).is(MOST_LOAD - 1);
        x.setMeasuredLoad(0, 1).is(0);
        x.measuredLoad(0).is(1);
    }

    private static void promise11Returns() {
        Sentences.names(11, "Returns its measured load");
        Subject x = Subject.line(2);
        x.measuredLoad(0).is(0);
        x.setMeasuredLoad(0, MOST_LOAD);
        x.measuredLoad(0).is(MOST_LOAD);
        x.setMeasuredLoad(0, -1);
        x.measuredLoad(0).is(MOST_LOAD);
        x.setMeasuredLoad(0, 0);
        x.measuredLoad(0).is(0);
        x.setDemand(0, 1, 3);
        x.measuredLoad(0).is(0);
        x.measure();
        x.measuredLoad(0).is(3);
    }

    private static void promise12Returns() {
        Sentences.names(12, "Returns its measured out total");
        Subject x = Subject.line(5);
        for (int t = 1; t < 5; t++) {
            x.setDemand(0, t, MOST_DEMAND);
        }
        x.setDemand(4, 0, MOST_DEMAND);
        x.outTotal(0).is(0);
        x.measure().is(4 * MOST_DEMAND);
        x.outTotal(0).is(4 * MOST_DEMAND);
        for (int node = 1; node < 5; node++) {
            x.outTotal(node).is(0);
        }
    }

    private static void promise13Returns() {
        Sentences.names(13, "Returns its measured in total");
        Subject x = Subject.line(5);
        for (int s = 0; s < 4; s++) {
            x.setDemand(s, 4, MOST_DEMAND);
        }
        x.setDemand(4, 0, MOST_DEMAND);
        x.inTotal(4).is(0);
        x.measure().is(4 * MOST_DEMAND);
        x.inTotal(4).is(4 * MOST_DEMAND);
        for (int node = 0; node < 4; node++) {
            x.inTotal(node).is(0);
        }
    }

    // ---- promises 14 and 15

    private static void promise14Measures() {
        Sentences.names(14, "Measures a pair: its measured value becomes its demand.");
        Subject x = Subject.line(3);
        x.measurePair(0, 1).is(0);
        x.setDemand(0, 1, MOST_DEMAND);
        x.measurePair(0, 1).is(MOST_DEMAND);
        x.setDemand(0, 1, 1);
        x.forgetPair(0, 1).is(MOST_DEMAND);
        x.forgetPair(0, 2).is(TrafficMatrix.NONE);
        x.forgetPair(1, 2).is(TrafficMatrix.NONE);
        x.setDemand(0, 1, 0).is(1);
    }

    private static void promise14Returns() {
        Sentences.names(14, "Returns the measured value");
        Subject x = Subject.ring(5);
        for (int s = 0; s < 5; s++) {
            for (int t = 0; t < 5; t++) {
                if (s != t) {
                    x.setDemand(s, t, MOST_DEMAND - 10 * s - t);
                    x.measurePair(s, t).is(MOST_DEMAND - 10 * s - t);
                    x.measurePair(s, t).is(MOST_DEMAND - 10 * s - t);
                }
            }
        }
        // all pairs are measured at once
        x.rank().is(20);
        for (int s = 0; s < 5; s++) {
            for (int t = 0; t < 5; t++) {
                if (s != t) {
                    x.forgetPair(s, t).is(MOST_DEMAND - 10 * s - t);
                }
            }
        }
    }

    private static void promise15Forgets() {
        Sentences.names(15, "Forgets the measured value of a pair.");
        Subject x = Subject.line(3);
        x.setDemand(0, 2, 6);
        x.measurePair(0, 2);
        x.measurePair(0, 1);
        x.rank().is(3);
        x.forgetPair(0, 2).is(6);
        x.forgetPair(0, 2).is(TrafficMatrix.NONE);
        x.forgetPair(0, 1).is(0);
        x.forgetPair(0, 1).is(TrafficMatrix.NONE);
        x.rank().is(2);
        x.setDemand(0, 2, 7).is(6);
        x.measurePair(0, 2).is(7);
        x.forgetPair(0, 2).is(7);
    }

    private static void promise15Returns() {
        Sentences.names(15, "NONE if the pair was not measured");
        Subject x = Subject.line(3).withAllDemands(3, 5);
        x.measure();
        for (int s = 0; s < 3; s++) {
            for (int t = 0; t < 3; t++) {
                if (s != t) {
                    // with a route and without one, before and after a refused measurement
                    x.forgetPair(s, t).is(TrafficMatrix.NONE);
                    x.measurePair(s, t).is(s < t ? 5 : TrafficMatrix.NO_ROUTE);
                    x.forgetPair(s, t).is(s < t ? 5 : TrafficMatrix.NONE);
                }
            }
        }
        x.measurePair(0, 1);
        x.reset(3);
        x.forgetPair(0, 1).is(TrafficMatrix.NONE);
    }
}
