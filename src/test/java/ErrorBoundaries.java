import java.util.ArrayList;
import java.util.List;
import java.util.function.Consumer;

/**
 * Errors: for each promise that lists some, every combination of arguments at the edges of their
 * ranges, the error that is due by the order of the list, and that a refused call changed nothing.
 */
final class ErrorBoundaries {
    private static final int NO_ERROR = 0;
    // so few that the object may still be asked for all its state
    private static final int CALLS_AT_ONCE = 100;

    private static final String SOURCE = "`source`: the source of a pair";
    private static final String TARGET = "`target`: the target of a pair";
    private static final String SOURCE_OF_THE = "`source`: the source of the pair";
    private static final String TARGET_OF_THE = "`target`: the target of the pair";
    private static final String LINK = "`link`: the number of a link";
    private static final String NODE = "`node`: the number of a node";

    private ErrorBoundaries() {
    }

    static void run() {
        constants();
        oneOfTwoNodes();
        longErrors();
        order();
        errorsChangeNothing();
        questionsChangeNothing();
        promises2To4();
        promises5To8();
        promises10To15();
        promises18To23();
        promises25To28();
        calls512();
        laterCalls();
    }

    // ---- a call, and the error that it must answer, or NO_ERROR

    private interface Call {
        Answer on(Subject x);
    }

    private record Try(Call call, long due) {
    }

    private interface OneArgument {
        Answer on(Subject x, int a);
    }

    private interface TwoArguments {
        Answer on(Subject x, int a, int b);
    }

    private interface ThreeArguments {
        Answer on(Subject x, int a, int b, int c);
    }

    /** What is due for a value behind a pair, where the pair itself is no error. */
    private interface DueBehindPair {
        long of(int s, int t, int value);
    }

    private static long pairDue(StartingPoint from, int s, int t) {
        if (!from.hasNode(s) || !from.hasNode(t)) {
            return TrafficMatrix.NO_SUCH_NODE;
        }
        return s == t ? TrafficMatrix.SAME_NODE : NO_ERROR;
    }

    private static long routeDue(StartingPoint from, int s, int t) {
        long due = pairDue(from, s, t);
        return due != NO_ERROR || from.hasRoute(s, t) ? due : TrafficMatrix.NO_ROUTE;
    }

    private static long linkDue(StartingPoint from, int link) {
        return from.hasLink(link) ? NO_ERROR : TrafficMatrix.NO_SUCH_LINK;
    }

    private static long rangeDue(int value, int least, int greatest) {
        return Edges.isInside(value, least, greatest) ? NO_ERROR : TrafficMatrix.BAD_VALUE;
    }

    /** Refused calls go to one object after the other, accepted ones to an object of their own. */
    private static void check(StartingPoint from, List<Try> tries) {
        List<String> untouched = State.of(from.make());
        Subject x = from.make();
        int refused = 0;
        for (Try one : tries) {
            if (one.due() == NO_ERROR) {
                one.call().on(from.make()).isNoError();
                continue;
            }
            one.call().on(x).is(one.due());
            refused++;
            if (refused % CALLS_AT_ONCE == 0) {
                Sentences.sameLines(State.of(x), untouched);
                x = from.make();
            }
        }
        Sentences.sameLines(State.of(x), untouched);
    }

    // ---- all combinations of arguments

    private static List<Try> pairs(StartingPoint from, TwoArguments method, DueBehindPair due) {
        List<Try> tries = new ArrayList<>();
        int[] nodes = Edges.of(0, from.nodes - 1);
        for (int s : nodes) {
            for (int t : nodes) {
                tries.add(new Try(x -> method.on(x, s, t), due.of(s, t, 0)));
            }
        }
        return tries;
    }

    private static List<Try> pairsAndValues(
            StartingPoint from, ThreeArguments method, int[] values, DueBehindPair due) {
        List<Try> tries = new ArrayList<>();
        int[] nodes = Edges.few(0, from.nodes - 1);
        for (int s : nodes) {
            for (int t : nodes) {
                for (int value : values) {
                    tries.add(new Try(x -> method.on(x, s, t, value), due.of(s, t, value)));
                }
            }
        }
        return tries;
    }

    private static List<Try> links(StartingPoint from, OneArgument method, long error) {
        List<Try> tries = new ArrayList<>();
        for (int link : Edges.of(0, from.links - 1)) {
            tries.add(new Try(x -> method.on(x, link), from.hasLink(link) ? NO_ERROR : error));
        }
        return tries;
    }

    private static List<Try> linksAndValues(
            StartingPoint from, TwoArguments method, int least, int greatest) {
        List<Try> tries = new ArrayList<>();
        for (int link : Edges.of(0, from.links - 1)) {
            for (int value : Edges.of(least, greatest)) {
                long due = linkDue(from, link);
                tries.add(new Try(x -> method.on(x, link, value),
                        due != NO_ERROR ? due : rangeDue(value, least, greatest)));
            }
        }
        return tries;
    }

    private static List<Try> values(OneArgument method, int least, int greatest, long error) {
        List<Try> tries = new ArrayList<>();
        for (int value : Edges.of(least, greatest)) {
            boolean inside = Edges.isInside(value, least, greatest);
            tries.add(new Try(x -> method.on(x, value), inside ? NO_ERROR : error));
        }
        return tries;
    }

    /** A parameter that is a node, tried with the other one at each node that exists. */
    private static void nodeParameter(
            int promise, String sentence, boolean isSource, TwoArguments method, long error) {
        Sentences.names(promise, sentence);
        for (StartingPoint from : StartingPoint.values()) {
            List<Try> tries = new ArrayList<>();
            for (int other = 0; other < from.nodes; other++) {
                int there = other;
                for (int node : Edges.outside(0, from.nodes - 1)) {
                    tries.add(new Try(x -> isSource ? method.on(x, node, there) : method.on(x, there, node), error));
                }
            }
            check(from, tries);
        }
    }

    private static void sourceAndTarget(int promise, boolean ofThe, TwoArguments method, long error) {
        nodeParameter(promise, ofThe ? SOURCE_OF_THE : SOURCE, true, method, error);
        nodeParameter(promise, ofThe ? TARGET_OF_THE : TARGET, false, method, error);
    }

    private static void linkParameter(int promise, String returns, OneArgument method, long error) {
        for (String sentence : new String[] {LINK, returns}) {
            Sentences.names(promise, sentence);
            for (StartingPoint from : StartingPoint.values()) {
                check(from, links(from, method, error));
            }
        }
    }

    // ---- the description

    private static void constants() {
        Sentences.names(0, "Errors are returned as the constants below.");
        Sentences.due("NO_SUCH_NODE", new Subject().outTotal(3).got(), -1);
        Sentences.due("SAME_NODE", new Subject().routeLength(0, 0).got(), -2);
        Sentences.due("NO_SUCH_LINK", new Subject().measuredLoad(0).got(), -3);
        Sentences.due("BAD_VALUE", new Subject().reset(6).got(), -4);
        Sentences.due("FULL", StartingPoint.FULL.make().addLink(0, 1, 1).got(), -5);
        Sentences.due("NO_ROUTE", new Subject().routeLength(0, 1).got(), -6);
        Sentences.due("NONE", new Subject().bestPair().got(), -7);
        Sentences.due("NO_VALUE", new Subject().residual(0).got(), -9223372036854775807L - 1);
    }

    private static void oneOfTwoNodes() {
        Sentences.names(0, "Where a method has the parameters source and target, NO_SUCH_NODE means that one of them "
                + "does not exist, and SAME_NODE that they are equal.");
        List<TwoArguments> methods = List.of(
                (x, s, t) -> x.addLink(s, t, 1), Subject::routeLength, (x, s, t) -> x.routeLink(s, t, 0),
                (x, s, t) -> x.setDemand(s, t, 1), Subject::measurePair, Subject::forgetPair,
                Subject::isIdentifiable);
        for (TwoArguments method : methods) {
            for (StartingPoint from : StartingPoint.values()) {
                Subject x = from.make();
                int n = from.nodes;
                method.on(x, n, 0).is(TrafficMatrix.NO_SUCH_NODE);
                method.on(x, 0, n).is(TrafficMatrix.NO_SUCH_NODE);
                method.on(x, -1, n - 1).is(TrafficMatrix.NO_SUCH_NODE);
                method.on(x, n - 1, -1).is(TrafficMatrix.NO_SUCH_NODE);
                // equal nodes that do not exist
                method.on(x, n, n).is(TrafficMatrix.NO_SUCH_NODE);
                method.on(x, -1, -1).is(TrafficMatrix.NO_SUCH_NODE);
                method.on(x, Integer.MIN_VALUE, Integer.MIN_VALUE).is(TrafficMatrix.NO_SUCH_NODE);
                method.on(x, Integer.MAX_VALUE, Integer.MAX_VALUE).is(TrafficMatrix.NO_SUCH_NODE);
                for (int node = 0; node < n; node++) {
                    method.on(x, node, node).is(TrafficMatrix.SAME_NODE);
                }
            }
        }
    }

    private static void longErrors() {
        Sentences.names(0, "Methods that return a long return NO_VALUE for every error.");
        List<TwoArguments> methods =
                List.of(Subject::identifiedNumerator, Subject::identifiedDenominator, Subject::estimate);
        for (TwoArguments method : methods) {
            for (StartingPoint from : StartingPoint.values()) {
                Subject x = from.make();
                method.on(x, from.nodes, 0).is(TrafficMatrix.NO_VALUE);
                method.on(x, 0, -1).is(TrafficMatrix.NO_VALUE);
                method.on(x, 0, 0).is(TrafficMatrix.NO_VALUE);
                method.on(x, from.nodes, from.nodes).is(TrafficMatrix.NO_VALUE);
            }
        }
        Subject x = StartingPoint.OPEN.make();
        x.identifiedNumerator(1, 0).is(TrafficMatrix.NO_VALUE);
        x.identifiedDenominator(1, 0).is(TrafficMatrix.NO_VALUE);
        x.residual(-1).is(TrafficMatrix.NO_VALUE);
        x.residual(11).is(TrafficMatrix.NO_VALUE);
        x.residual(10).is(0);
    }

    /** Each method that has two errors or more, with as many of them at once as can be. */
    private static void order() {
        Sentences.names(0, "Each method lists its errors in the order in which they are checked.");
        Subject full = StartingPoint.FULL.make();
        full.addLink(5, 5, 0).is(TrafficMatrix.NO_SUCH_NODE);
        full.addLink(1, 1, 0).is(TrafficMatrix.SAME_NODE);
        full.addLink(0, 1, 0).is(TrafficMatrix.BAD_VALUE);
        full.addLink(0, 1, 1).is(TrafficMatrix.FULL);
        full.setMetric(12, 0).is(TrafficMatrix.NO_SUCH_LINK);
        full.setMetric(11, 0).is(TrafficMatrix.BAD_VALUE);
        full.routeLength(5, 5).is(TrafficMatrix.NO_SUCH_NODE);
        full.routeLength(4, 4).is(TrafficMatrix.SAME_NODE);
        full.routeLength(4, 0).is(TrafficMatrix.NO_ROUTE);
        full.routeLink(5, 5, -1).is(TrafficMatrix.NO_SUCH_NODE);
        full.routeLink(4, 4, -1).is(TrafficMatrix.SAME_NODE);
        full.routeLink(4, 0, -1).is(TrafficMatrix.NO_ROUTE);
        full.routeLink(0, 3, -1).is(TrafficMatrix.BAD_VALUE);
        full.setDemand(5, 5, -1).is(TrafficMatrix.NO_SUCH_NODE);
        full.setDemand(4, 4, -1).is(TrafficMatrix.SAME_NODE);
        full.setDemand(4, 0, -1).is(TrafficMatrix.BAD_VALUE);
        full.setMeasuredLoad(12, -1).is(TrafficMatrix.NO_SUCH_LINK);
        full.setMeasuredLoad(11, -1).is(TrafficMatrix.BAD_VALUE);
        full.measurePair(5, 5).is(TrafficMatrix.NO_SUCH_NODE);
        full.measurePair(4, 4).is(TrafficMatrix.SAME_NODE);
        full.measurePair(4, 0).is(TrafficMatrix.NO_ROUTE);
        full.forgetPair(5, 5).is(TrafficMatrix.NO_SUCH_NODE);
        full.forgetPair(4, 4).is(TrafficMatrix.SAME_NODE);
        full.forgetPair(4, 0).is(TrafficMatrix.NONE);
        full.isIdentifiable(5, 5).is(TrafficMatrix.NO_SUCH_NODE);
        full.isIdentifiable(4, 4).is(TrafficMatrix.SAME_NODE);
        full.isIdentifiable(4, 0).is(TrafficMatrix.NO_ROUTE);
    }

    private static void errorsChangeNothing() {
        Sentences.names(0, "An error changes nothing.");
        List<Consumer<Subject>> refused = List.of(
                x -> x.reset(1).is(TrafficMatrix.BAD_VALUE),
                x -> x.reset(6).is(TrafficMatrix.BAD_VALUE),
                x -> x.addLink(0, 5, 1).is(TrafficMatrix.NO_SUCH_NODE),
                x -> x.addLink(0, 1, 100).is(TrafficMatrix.BAD_VALUE),
                x -> x.addLink(3, 0, 1).is(TrafficMatrix.FULL),
                x -> x.setMetric(0, 100).is(TrafficMatrix.BAD_VALUE),
                x -> x.setMetric(12, 1).is(TrafficMatrix.NO_SUCH_LINK),
                x -> x.setDemand(0, 1, 10000).is(TrafficMatrix.BAD_VALUE),
                x -> x.setDemand(1, 1, 1).is(TrafficMatrix.SAME_NODE),
                x -> x.setMeasuredLoad(0, 199981).is(TrafficMatrix.BAD_VALUE),
                x -> x.setMeasuredLoad(12, 1).is(TrafficMatrix.NO_SUCH_LINK),
                x -> x.measurePair(1, 0).is(TrafficMatrix.NO_ROUTE),
                x -> x.measurePair(1, 1).is(TrafficMatrix.SAME_NODE),
                x -> x.forgetPair(0, 2).is(TrafficMatrix.NONE),
                x -> x.forgetPair(0, 5).is(TrafficMatrix.NO_SUCH_NODE),
                x -> x.fitTotals(0).is(TrafficMatrix.BAD_VALUE),
                x -> x.fitTotals(51).is(TrafficMatrix.BAD_VALUE),
                x -> x.fitLinks(0).is(TrafficMatrix.BAD_VALUE),
                x -> x.fitLinks(51).is(TrafficMatrix.BAD_VALUE));
        for (Consumer<Subject> call : refused) {
            Sentences.changesNothing(StartingPoint.FULL::make, call);
        }
    }

    private static void questionsChangeNothing() {
        Sentences.names(0, "They change only by the methods that say so");
        for (StartingPoint from : StartingPoint.values()) {
            Sentences.changesNothing(from::make, x -> {
                for (int node = 0; node < from.nodes; node++) {
                    x.outTotal(node).isNoError();
                    x.inTotal(node).isNoError();
                    int next = (node + 1) % from.nodes;
                    x.estimate(node, next).isNoError();
                    x.routeLength(node, next);
                    x.routeLink(node, next, 0);
                    x.isIdentifiable(node, next);
                    x.identifiedNumerator(node, next);
                    x.identifiedDenominator(node, next);
                }
                for (int link = 0; link < from.links; link++) {
                    x.carriedLoad(link).isNoError();
                    x.measuredLoad(link).isNoError();
                    x.pairsOnLink(link).isNoError();
                    x.residual(link);
                }
                x.rank().isNoError();
                x.isConsistent().isNoError();
                x.identifiableCount().isNoError();
                x.bestPair();
                x.totalError().isNoError();
            });
        }
    }

    // ---- promise by promise

    private static void promises2To4() {
        Sentences.names(2, "Returns the number of links removed; BAD_VALUE.");
        for (StartingPoint from : StartingPoint.values()) {
            check(from, values(Subject::reset, 2, 5, TrafficMatrix.BAD_VALUE));
        }
        Sentences.names(3, "Returns the number of the link; NO_SUCH_NODE; SAME_NODE; BAD_VALUE; FULL.");
        for (StartingPoint from : StartingPoint.values()) {
            check(from, pairsAndValues(from, Subject::addLink, Edges.of(1, 99), (s, t, metric) -> {
                long due = pairDue(from, s, t);
                due = due != NO_ERROR ? due : rangeDue(metric, 1, 99);
                return due != NO_ERROR || from != StartingPoint.FULL ? due : TrafficMatrix.FULL;
            }));
        }
        Sentences.names(4, "Returns the previous metric; NO_SUCH_LINK; BAD_VALUE.");
        for (StartingPoint from : StartingPoint.values()) {
            check(from, linksAndValues(from, Subject::setMetric, 1, 99));
        }
    }

    private static void promises5To8() {
        sourceAndTarget(5, false, Subject::routeLength, TrafficMatrix.NO_SUCH_NODE);
        Sentences.names(5, "Returns the number of links of its route; NO_SUCH_NODE; SAME_NODE; NO_ROUTE.");
        for (StartingPoint from : StartingPoint.values()) {
            check(from, pairs(from, Subject::routeLength, (s, t, none) -> routeDue(from, s, t)));
        }
        sourceAndTarget(6, false, (x, s, t) -> x.routeLink(s, t, 0), TrafficMatrix.NO_SUCH_NODE);
        Sentences.names(6, "Returns the number of that link; NO_SUCH_NODE; SAME_NODE; NO_ROUTE; BAD_VALUE if the route "
                + "has no such place.");
        for (StartingPoint from : StartingPoint.values()) {
            // the longest route has three links
            check(from, everyPairAndPlace(from));
        }
        sourceAndTarget(7, true, (x, s, t) -> x.setDemand(s, t, 1), TrafficMatrix.NO_SUCH_NODE);
        Sentences.names(7, "Returns the previous demand; NO_SUCH_NODE; SAME_NODE; BAD_VALUE.");
        for (StartingPoint from : StartingPoint.values()) {
            check(from, pairsAndValues(from, Subject::setDemand, Edges.of(0, 9999), (s, t, value) -> {
                long due = pairDue(from, s, t);
                return due != NO_ERROR ? due : rangeDue(value, 0, 9999);
            }));
        }
        linkParameter(8, "Returns its carried load; NO_SUCH_LINK.", Subject::carriedLoad,
                TrafficMatrix.NO_SUCH_LINK);
    }

    private static List<Try> everyPairAndPlace(StartingPoint from) {
        List<Try> tries = new ArrayList<>();
        for (int s = -1; s <= from.nodes; s++) {
            for (int t = -1; t <= from.nodes; t++) {
                int source = s;
                int target = t;
                for (int k : Edges.of(0, 2)) {
                    long due = routeDue(from, s, t);
                    tries.add(new Try(x -> x.routeLink(source, target, k),
                            due != NO_ERROR ? due : rangeDue(k, 0, from.routeLength(s, t) - 1)));
                }
            }
        }
        return tries;
    }

    private static void promises10To15() {
        Sentences.names(10, LINK);
        for (StartingPoint from : StartingPoint.values()) {
            check(from, links(from, (x, link) -> x.setMeasuredLoad(link, 1), TrafficMatrix.NO_SUCH_LINK));
        }
        Sentences.names(10, "Returns the previous measured load; NO_SUCH_LINK; BAD_VALUE.");
        for (StartingPoint from : StartingPoint.values()) {
            check(from, linksAndValues(from, Subject::setMeasuredLoad, 0, 199980));
        }
        linkParameter(11, "Returns its measured load; NO_SUCH_LINK.", Subject::measuredLoad,
                TrafficMatrix.NO_SUCH_LINK);
        nodeTotals(12, "Returns its measured out total; NO_SUCH_NODE.", Subject::outTotal);
        nodeTotals(13, "Returns its measured in total; NO_SUCH_NODE.", Subject::inTotal);
        sourceAndTarget(14, true, Subject::measurePair, TrafficMatrix.NO_SUCH_NODE);
        Sentences.names(14, "Returns the measured value; NO_SUCH_NODE; SAME_NODE; NO_ROUTE.");
        for (StartingPoint from : StartingPoint.values()) {
            check(from, pairs(from, Subject::measurePair, (s, t, none) -> routeDue(from, s, t)));
        }
        sourceAndTarget(15, true, Subject::forgetPair, TrafficMatrix.NO_SUCH_NODE);
        Sentences.names(15, "Returns the measured value; NO_SUCH_NODE; SAME_NODE; NONE if the pair was not measured.");
        for (StartingPoint from : StartingPoint.values()) {
            check(from, pairs(from, Subject::forgetPair, (s, t, none) -> {
                long due = pairDue(from, s, t);
                return due != NO_ERROR || from.hasMeasured(s, t) ? due : TrafficMatrix.NONE;
            }));
        }
    }

    private static void nodeTotals(int promise, String returns, OneArgument method) {
        for (String sentence : new String[] {NODE, returns}) {
            Sentences.names(promise, sentence);
            for (StartingPoint from : StartingPoint.values()) {
                check(from, values(method, 0, from.nodes - 1, TrafficMatrix.NO_SUCH_NODE));
            }
        }
    }

    private static void promises18To23() {
        sourceAndTarget(18, false, Subject::isIdentifiable, TrafficMatrix.NO_SUCH_NODE);
        Sentences.names(18, "Returns 1 if the pair is identifiable, otherwise 0; NO_SUCH_NODE; SAME_NODE; NO_ROUTE.");
        for (StartingPoint from : StartingPoint.values()) {
            check(from, pairs(from, Subject::isIdentifiable, (s, t, none) -> routeDue(from, s, t)));
        }
        sourceAndTarget(20, false, Subject::identifiedNumerator, TrafficMatrix.NO_VALUE);
        Sentences.names(20, "Returns the numerator; NO_VALUE");
        onlyTheMeasuredPair(Subject::identifiedNumerator);
        sourceAndTarget(21, false, Subject::identifiedDenominator, TrafficMatrix.NO_VALUE);
        Sentences.names(21, "Returns the denominator; NO_VALUE");
        onlyTheMeasuredPair(Subject::identifiedDenominator);
        linkParameter(23, "Returns their number; NO_SUCH_LINK.", Subject::pairsOnLink,
                TrafficMatrix.NO_SUCH_LINK);
    }

    /** Of a starting point's pairs none but the measured one is identifiable. */
    private static void onlyTheMeasuredPair(TwoArguments method) {
        for (StartingPoint from : StartingPoint.values()) {
            check(from, pairs(from, method, (s, t, none) ->
                    from.hasMeasured(s, t) ? NO_ERROR : TrafficMatrix.NO_VALUE));
        }
    }

    private static void promises25To28() {
        Sentences.names(25, "Returns the number of pairs whose estimate is not what it was before the call; BAD_VALUE.");
        for (StartingPoint from : StartingPoint.values()) {
            check(from, values(Subject::fitTotals, 1, 50, TrafficMatrix.BAD_VALUE));
        }
        Sentences.names(26, "Returns the number of pairs whose estimate is not what it was before the call; BAD_VALUE.");
        for (StartingPoint from : StartingPoint.values()) {
            check(from, values(Subject::fitLinks, 1, 50, TrafficMatrix.BAD_VALUE));
        }
        sourceAndTarget(27, false, Subject::estimate, TrafficMatrix.NO_VALUE);
        Sentences.names(27, "Returns its estimate; NO_VALUE if a node does not exist or both are the same.");
        for (StartingPoint from : StartingPoint.values()) {
            check(from, pairs(from, Subject::estimate, (s, t, none) ->
                    pairDue(from, s, t) == NO_ERROR ? NO_ERROR : TrafficMatrix.NO_VALUE));
        }
        // a residual may be below 0 and no error, so that the links that exist have a test elsewhere
        Sentences.names(28, LINK);
        for (StartingPoint from : StartingPoint.values()) {
            List<Try> tries = links(from, Subject::residual, TrafficMatrix.NO_VALUE);
            tries.removeIf(one -> one.due() == NO_ERROR);
            check(from, tries);
        }
    }

    // ---- how often an object is called

    private static void calls512() {
        Sentences.names(0, "An object is used for at most 512 calls after it has been made");
        Subject x = Subject.hub().withAllDemands(5, 9999);
        x.measure().is(199980);
        while (x.calls() < 500) {
            x.applyGravity().is(20);
            x.fitTotals(50).isNoError();
            x.fitLinks(50).isNoError();
            x.rank().is(7);
            x.setMetric(0, 2).isNoError();
        }
        x.setMetric(0, 1);
        x.applyGravity().is(20);
        x.estimate(4, 3).is(7999200);
        while (x.calls() < 511) {
            x.bestPair().isNoError();
        }
        x.carriedLoad(0).is(13 * 9999);
        Sentences.due("calls", x.calls(), 512);
    }

    /** Their answers are free, but no call may ever throw. */
    private static void laterCalls() {
        Sentences.names(0, "what later calls answer is free.");
        TrafficMatrix x = new TrafficMatrix();
        long sum = 0;
        for (int call = 0; call < 2000; call++) {
            sum += x.addLink(call % 3, (call + 1) % 3, 1) + x.setDemand(0, 1, call) + x.measure()
                    + x.bestPair() + x.applyGravity() + x.fitTotals(1) + x.fitLinks(1);
        }
        Sentences.due("calls after the 512th have ended", sum == Long.MIN_VALUE ? 0 : 1, 1);
    }
}
