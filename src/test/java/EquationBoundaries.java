/** What the equations determine: promises 16 to 23, and what the description says of them. */
final class EquationBoundaries {
    private static final int MOST_DEMAND = 9999;
    private static final int MOST_LOAD = 199980;
    private static final long NO_VALUE = TrafficMatrix.NO_VALUE;

    private EquationBoundaries() {
    }

    static void run() {
        unknownsArePairsWithARoute();
        linksGiveEquations();
        unusedLinks();
        measuredPairsGiveEquations();
        totalsGiveNone();
        thirds();
        fourths();
        negativeValues();
        equationsWithASolution();
        equationsWithoutOne();
        combinationsOfLeftSides();
        singularLeftSides();
        linesThatMeet();
        valuesDoNotMatter();
        oneValueInAllSolutions();
        promise16();
        promise17();
        promise18();
        promise19();
        promise20LowestTerms();
        promise20Signs();
        promise20Zero();
        promise20NoValue();
        promise21();
        promise21NoValue();
        promise22Best();
        promise22BestByMultiples();
        promise22LowestSource();
        promise22LowestTarget();
        promise22NothingIsMeasured();
        promise22Codes();
        promise22None();
        promise23Counts();
        promise23Returns();
    }

    private static void identified(Subject x, int s, int t, long numerator, long denominator) {
        x.identifiedNumerator(s, t).is(numerator);
        x.identifiedDenominator(s, t).is(denominator);
    }

    private static void notIdentified(Subject x, int s, int t) {
        identified(x, s, t, NO_VALUE, NO_VALUE);
    }

    private static void setLoads(Subject x, int... loads) {
        for (int link = 0; link < loads.length; link++) {
            x.setMeasuredLoad(link, loads[link]);
        }
    }

    /**
     * A ring on which all pairs are measured as 0 but those of a number of hops: link i then tells the
     * sum of those that begin at i and at the hops - 1 nodes before it.
     */
    private static Subject ringOfHops(int nodes, int hops) {
        Subject x = Subject.ring(nodes);
        for (int s = 0; s < nodes; s++) {
            for (int other = 1; other < nodes; other++) {
                if (other != hops) {
                    x.measurePair(s, (s + other) % nodes);
                }
            }
        }
        return x;
    }

    // ---- the description

    private static void unknownsArePairsWithARoute() {
        Sentences.names(0, "The unknowns are the values x(s, t) of all pairs that have a route.");
        for (int nodes = 2; nodes <= 5; nodes++) {
            Subject none = Subject.ofNodes(nodes).withAllDemands(nodes, MOST_DEMAND);
            none.measure();
            none.rank().is(0);
            none.isConsistent().is(1);
            none.identifiableCount().is(0);
            none.bestPair().is(TrafficMatrix.NONE);
            none.isIdentifiable(0, 1).is(TrafficMatrix.NO_ROUTE);
        }
        Subject line = Subject.line(5);
        Subject ring = Subject.ring(5);
        for (int s = 0; s < 5; s++) {
            for (int t = 0; t < 5; t++) {
                if (s != t) {
                    line.measurePair(s, t).is(s < t ? 0 : TrafficMatrix.NO_ROUTE);
                    ring.measurePair(s, t).is(0);
                }
            }
        }
        line.rank().is(10);
        line.identifiableCount().is(10);
        ring.rank().is(20);
        ring.identifiableCount().is(20);
    }

    private static void linksGiveEquations() {
        Sentences.names(0, "Each link gives an equation: the sum of x over all pairs whose route uses the link equals "
                + "the measured load of the link.");
        Subject one = Subject.line(2);
        one.rank().is(1);
        identified(one, 0, 1, 0, 1);
        one.setMeasuredLoad(0, MOST_LOAD);
        identified(one, 0, 1, MOST_LOAD, 1);
        Subject twelve = Subject.ofNodes(4);
        for (int s = 0; s < 4; s++) {
            for (int hops = 1; hops < 4; hops++) {
                int link = (int) twelve.addLink(s, (s + hops) % 4, 99).got();
                twelve.setMeasuredLoad(link, MOST_LOAD - link);
            }
        }
        twelve.rank().is(12);
        for (int link = 0; link < 12; link++) {
            identified(twelve, link / 3, (link / 3 + link % 3 + 1) % 4, MOST_LOAD - link, 1);
        }
        // the routes are those of now, the loads those of then
        Subject line = Subject.line(3);
        line.addLink(0, 2, 3);
        setLoads(line, 5, 7, 0);
        line.rank().is(2);
        notIdentified(line, 0, 1);
        line.setMetric(2, 2);
        line.rank().is(3);
        identified(line, 0, 1, 5, 1);
        identified(line, 1, 2, 7, 1);
        identified(line, 0, 2, 0, 1);
    }

    private static void unusedLinks() {
        Sentences.names(0, "(A link that no route uses gives the equation 0 = its measured load.)");
        Subject x = Subject.ofNodes(2);
        for (int link = 0; link < 12; link++) {
            x.addLink(0, 1, 5);
        }
        x.setMeasuredLoad(0, 8);
        x.rank().is(1);
        x.isConsistent().is(1);
        for (int link = 1; link < 12; link++) {
            x.setMeasuredLoad(link, 1);
            x.isConsistent().is(0);
            x.rank().is(1);
            x.isIdentifiable(0, 1).is(1);
            notIdentified(x, 0, 1);
            x.setMeasuredLoad(link, MOST_LOAD);
            x.isConsistent().is(0);
            x.setMeasuredLoad(link, 0);
            x.isConsistent().is(1);
            identified(x, 0, 1, 8, 1);
        }
        // the used one and an unused one change places
        x.setMetric(11, 4);
        x.isConsistent().is(0);
        x.setMetric(11, 5);
        x.isConsistent().is(1);
    }

    private static void measuredPairsGiveEquations() {
        Sentences.names(0, "Each measured pair that has a route gives the equation x(s, t) = its measured value.");
        int[] values = {0, 1, MOST_DEMAND};
        for (int value : values) {
            Subject x = Subject.line(2);
            x.setDemand(0, 1, value);
            x.measurePair(0, 1).is(value);
            x.rank().is(1);
            x.setMeasuredLoad(0, value);
            x.isConsistent().is(1);
            identified(x, 0, 1, value, 1);
            x.setMeasuredLoad(0, value + 1);
            x.isConsistent().is(0);
            notIdentified(x, 0, 1);
            x.forgetPair(0, 1).is(value);
            x.isConsistent().is(1);
            identified(x, 0, 1, value + 1, 1);
        }
        // the value stays that of the measurement until the pair is measured again
        Subject y = Subject.line(3);
        y.measurePair(0, 2).is(0);
        setLoads(y, 10, 20);
        y.setDemand(0, 2, 4);
        identified(y, 0, 1, 10, 1);
        y.measurePair(0, 2).is(4);
        identified(y, 0, 1, 6, 1);
        identified(y, 1, 2, 16, 1);
    }

    private static void totalsGiveNone() {
        Sentences.names(0, "Node totals give no equations.");
        Subject x = Subject.line(3);
        x.setDemand(0, 1, 10);
        x.setDemand(1, 2, 7);
        x.rank().is(2);
        x.measure();
        // in(1) is x(0, 1) alone and out(1) is x(1, 2) alone
        x.inTotal(1).is(10);
        x.outTotal(1).is(7);
        x.rank().is(2);
        x.isIdentifiable(0, 1).is(0);
        x.isIdentifiable(1, 2).is(0);
        x.identifiableCount().is(0);
        Subject y = Subject.oneLink(5);
        y.setMeasuredLoad(0, 6);
        y.isConsistent().is(1);
        identified(y, 0, 1, 6, 1);
    }

    private static void thirds() {
        Sentences.names(0, "All computations with equations are exact, with rational numbers, which may be negative.");
        Subject x = ringOfHops(5, 3);
        x.identifiableCount().is(20);
        x.rank().is(20);
        // with x(s) for the pair that begins at s: link i is x(i) + x(i - 1) + x(i - 2)
        setLoads(x, 1, 0, 0, 0, 0);
        identified(x, 0, 3, 2, 3);
        identified(x, 1, 4, -1, 3);
        identified(x, 2, 0, -1, 3);
        identified(x, 3, 1, 2, 3);
        identified(x, 4, 2, -1, 3);
        setLoads(x, MOST_LOAD - 1);
        identified(x, 0, 3, 2 * (MOST_LOAD - 1), 3);
        identified(x, 1, 4, -(MOST_LOAD - 1), 3);
        setLoads(x, MOST_LOAD);
        identified(x, 0, 3, 2 * MOST_LOAD / 3, 1);
        identified(x, 1, 4, -MOST_LOAD / 3, 1);
        setLoads(x, MOST_LOAD, MOST_LOAD, MOST_LOAD, MOST_LOAD, MOST_LOAD);
        identified(x, 4, 2, MOST_LOAD / 3, 1);
        setLoads(x, MOST_LOAD - 1, MOST_LOAD - 1, MOST_LOAD - 1, MOST_LOAD - 1, MOST_LOAD - 1);
        identified(x, 4, 2, MOST_LOAD - 1, 3);
    }

    private static void fourths() {
        Sentences.names(0, "All computations with equations are exact, with rational numbers");
        Subject x = ringOfHops(5, 4);
        // a fourth of the sum of all loads is the sum of all pairs; each leaves out one link
        setLoads(x, 0, 0, 0, 0, 1);
        identified(x, 0, 4, -3, 4);
        identified(x, 1, 0, 1, 4);
        identified(x, 4, 3, 1, 4);
        setLoads(x, 0, 0, 0, 1, 1);
        identified(x, 0, 4, -1, 2);
        identified(x, 1, 0, 1, 2);
        setLoads(x, 0, 0, 0, MOST_LOAD, MOST_LOAD - 1);
        identified(x, 0, 4, 2 * MOST_LOAD - 1 - 4 * (MOST_LOAD - 1), 4);
        identified(x, 4, 3, 2 * MOST_LOAD - 1 - 4 * MOST_LOAD, 4);
        identified(x, 1, 0, 2 * MOST_LOAD - 1, 4);
    }

    private static void negativeValues() {
        Sentences.names(0, "rational numbers, which may be negative");
        Subject x = Subject.line(3);
        x.setDemand(0, 2, 1);
        x.measurePair(0, 2);
        x.isConsistent().is(1);
        identified(x, 0, 1, -1, 1);
        identified(x, 1, 2, -1, 1);
        x.setDemand(0, 2, MOST_DEMAND);
        x.measurePair(0, 2);
        identified(x, 0, 1, -MOST_DEMAND, 1);
        // the least value: of the 13 pairs over a link all but one are measured at their greatest
        Subject hub = Subject.hub().withAllDemands(5, MOST_DEMAND);
        for (int s = 0; s < 5; s++) {
            for (int t = 0; t < 5; t++) {
                if (s != t && !(s == 0 && t == 1)) {
                    hub.measurePair(s, t);
                }
            }
        }
        hub.isConsistent().is(0);
        hub.measure();
        hub.isConsistent().is(1);
        identified(hub, 0, 1, MOST_DEMAND, 1);
        hub.setMeasuredLoad(0, 0);
        identified(hub, 0, 1, -12 * MOST_DEMAND, 1);
        hub.setMeasuredLoad(0, MOST_LOAD);
        identified(hub, 0, 1, MOST_LOAD - 12 * MOST_DEMAND, 1);
    }

    private static void equationsWithASolution() {
        Sentences.names(0, "The equations are consistent if they have a solution.");
        Subject.ofNodes(2).isConsistent().is(1);
        // of rings of four with two hops each, the loads of links 0 and 2 sum up to those of 1 and 3
        Subject x = ringOfHops(4, 2);
        x.isConsistent().is(1);
        setLoads(x, MOST_LOAD, 0, 0, MOST_LOAD);
        x.isConsistent().is(1);
        setLoads(x, 1, 3, 5, 3);
        x.isConsistent().is(1);
        // a solution that is negative, and one that is no whole number
        Subject negative = Subject.line(3).withAllDemands(3, 6);
        negative.measurePair(0, 2);
        setLoads(negative, 5, 0);
        negative.isConsistent().is(1);
        Subject halves = ringOfHops(3, 2);
        setLoads(halves, 1, 0, 0);
        halves.isConsistent().is(1);
        identified(halves, 0, 2, 1, 2);
    }

    private static void equationsWithoutOne() {
        Sentences.names(0, "The equations are consistent if they have a solution.");
        Subject x = ringOfHops(4, 2);
        setLoads(x, MOST_LOAD, 1, 0, MOST_LOAD);
        x.isConsistent().is(0);
        setLoads(x, MOST_LOAD, 1, 1, MOST_LOAD);
        x.isConsistent().is(1);
        setLoads(x, MOST_LOAD, 1, 1, MOST_LOAD - 1);
        x.isConsistent().is(0);
        setLoads(x, 1, 3, 5, 4);
        x.isConsistent().is(0);
        // all pairs of a link are measured: their sum is the load, or one more, or one less
        Subject all = Subject.line(3).withAllDemands(3, MOST_DEMAND);
        all.measurePair(0, 1);
        all.measurePair(0, 2);
        setLoads(all, 2 * MOST_DEMAND, 0);
        all.isConsistent().is(1);
        setLoads(all, 2 * MOST_DEMAND + 1, 0);
        all.isConsistent().is(0);
        setLoads(all, 2 * MOST_DEMAND - 1, 0);
        all.isConsistent().is(0);
    }

    private static void combinationsOfLeftSides() {
        Sentences.names(0, "A pair with a route is identifiable if the left sides of the equations determine it: some "
                + "linear combination of the left sides is x(s, t) alone.");
        // half of link 0, plus half of link 1, minus half of link 2
        Subject halves = ringOfHops(3, 2);
        halves.isIdentifiable(0, 2).is(1);
        halves.forgetPair(0, 1).is(0);
        halves.isIdentifiable(0, 2).is(0);
        halves.isIdentifiable(0, 1).is(0);
        halves.isIdentifiable(1, 2).is(1);
        halves.isIdentifiable(1, 0).is(0);
        halves.identifiableCount().is(2);
        // link 1 minus the measured pair, and link 0 minus that
        Subject line = Subject.line(3);
        line.measurePair(1, 2);
        line.isIdentifiable(0, 2).is(1);
        line.isIdentifiable(0, 1).is(1);
        line.isIdentifiable(2, 0).is(TrafficMatrix.NO_ROUTE);
        // the left side of a link itself
        Subject.line(2).isIdentifiable(0, 1).is(1);
    }

    private static void singularLeftSides() {
        Sentences.names(0, "some linear combination of the left sides is x(s, t) alone");
        // four equations of four unknowns, one of which follows from the others
        Subject x = ringOfHops(4, 2);
        x.rank().is(11);
        x.identifiableCount().is(8);
        for (int s = 0; s < 4; s++) {
            x.isIdentifiable(s, (s + 2) % 4).is(0);
            x.isIdentifiable(s, (s + 1) % 4).is(1);
            x.isIdentifiable(s, (s + 3) % 4).is(1);
        }
        x.measurePair(3, 1);
        x.rank().is(12);
        x.identifiableCount().is(12);
    }

    /** Two lines that meet: in the order of the pairs the rows are subtracted from one another. */
    private static void linesThatMeet() {
        Sentences.names(0, "A pair with a route is identifiable if the left sides of the equations determine it");
        Subject x = Subject.ofNodes(4);
        x.addLink(1, 3, 1);
        x.addLink(0, 3, 1);
        x.addLink(3, 2, 1);
        setLoads(x, 10, 20, 30);
        x.rank().is(3);
        x.isConsistent().is(1);
        x.identifiableCount().is(0);
        notIdentified(x, 0, 2);
        notIdentified(x, 0, 3);
        x.setDemand(3, 2, 4);
        x.measurePair(3, 2);
        x.rank().is(4);
        x.identifiableCount().is(1);
        notIdentified(x, 0, 2);
        x.setDemand(1, 3, 3);
        x.measurePair(1, 3);
        x.rank().is(5);
        identified(x, 1, 2, 7, 1);
        identified(x, 0, 2, 30 - 4 - 7, 1);
        identified(x, 0, 3, 1, 1);
    }

    private static void valuesDoNotMatter() {
        Sentences.names(0, "Whether a pair is identifiable does not depend on the measured values.");
        Subject x = Subject.line(4).withAllDemands(4, MOST_DEMAND);
        x.measurePair(0, 2);
        x.measurePair(0, 3);
        int[][] loads = {{0, 0, 0}, {MOST_LOAD, 0, 1}, {1, MOST_LOAD, MOST_LOAD}};
        for (int[] load : loads) {
            setLoads(x, load);
            x.isIdentifiable(0, 1).is(1);
            x.isIdentifiable(1, 2).is(0);
            x.identifiableCount().is(3);
            x.bestPair().is(12);
            x.rank().is(5);
        }
        // nor on whether they can be
        x.addLink(0, 1, 2).is(3);
        x.setMeasuredLoad(3, 1);
        x.isConsistent().is(0);
        x.isIdentifiable(0, 1).is(1);
        x.isIdentifiable(0, 2).is(1);
        x.isIdentifiable(1, 2).is(0);
        x.identifiableCount().is(3);
        x.bestPair().is(12);
        x.rank().is(5);
    }

    private static void oneValueInAllSolutions() {
        Sentences.names(0, "If the equations are consistent, an identifiable pair has the same value in all solutions, "
                + "its identified value.");
        // some pairs have a value while others are left open
        Subject x = Subject.line(4);
        x.setDemand(0, 2, 3);
        x.setDemand(0, 3, 4);
        x.measurePair(0, 2);
        x.measurePair(0, 3);
        setLoads(x, 100, 50, 60);
        identified(x, 0, 1, 93, 1);
        identified(x, 0, 2, 3, 1);
        identified(x, 0, 3, 4, 1);
        notIdentified(x, 1, 2);
        notIdentified(x, 1, 3);
        notIdentified(x, 2, 3);
        // an unused link with a load takes all values away
        x.addLink(0, 1, 2).is(3);
        identified(x, 0, 1, 93, 1);
        x.setMeasuredLoad(3, 1);
        notIdentified(x, 0, 1);
        notIdentified(x, 0, 2);
    }

    // ---- promises 16 to 19

    private static void promise16() {
        Sentences.names(16, "Returns the rank of the left sides of all equations.");
        Subject x = Subject.ofNodes(2);
        x.rank().is(0);
        x.addLink(0, 1, 1);
        x.rank().is(1);
        // an empty left side, and one that is there already
        x.addLink(0, 1, 1);
        x.rank().is(1);
        x.measurePair(0, 1);
        x.rank().is(1);
        // right sides do not count, even if they contradict each other
        x.setMeasuredLoad(0, 1);
        x.setMeasuredLoad(1, 1);
        x.rank().is(1);
        // 12 links and all 20 pairs measured: the rank is that of the pairs alone
        Subject full = Subject.ring(5);
        for (int link = 5; link < 12; link++) {
            full.addLink(link % 5, (link + 2) % 5, 1);
        }
        full.rank().is(10);
        for (int s = 0; s < 5; s++) {
            for (int hops = 1; hops < 5; hops++) {
                full.measurePair(s, (s + hops) % 5);
            }
        }
        full.rank().is(20);
    }

    private static void promise17() {
        Sentences.names(17, "Returns 1 if the equations are consistent, otherwise 0.");
        Subject x = new Subject();
        x.isConsistent().is(1);
        x.addLink(0, 1, 1);
        x.addLink(0, 1, 1);
        x.isConsistent().is(1);
        x.setMeasuredLoad(1, 1);
        x.isConsistent().is(0);
        x.setMetric(0, 2);
        x.isConsistent().is(1);
        x.measurePair(0, 1).is(0);
        x.isConsistent().is(0);
        x.forgetPair(0, 1).is(0);
        x.isConsistent().is(1);
        // a measurement of everything at once is always consistent
        Subject y = Subject.hub().withAllDemands(5, MOST_DEMAND);
        y.measure();
        y.measurePair(4, 3);
        y.isConsistent().is(1);
    }

    private static void promise18() {
        Sentences.names(18, "Returns 1 if the pair is identifiable, otherwise 0");
        Subject x = Subject.line(3);
        x.isIdentifiable(0, 1).is(0);
        x.isIdentifiable(0, 2).is(0);
        x.isIdentifiable(2, 1).is(TrafficMatrix.NO_ROUTE);
        x.measurePair(0, 2);
        x.isIdentifiable(0, 1).is(1);
        x.isIdentifiable(0, 2).is(1);
        x.forgetPair(0, 2);
        x.isIdentifiable(0, 2).is(0);
        x.addLink(2, 1, 1);
        x.isIdentifiable(2, 1).is(1);
    }

    private static void promise19() {
        Sentences.names(19, "Returns the number of identifiable pairs.");
        Subject.ofNodes(5).identifiableCount().is(0);
        Subject.line(2).identifiableCount().is(1);
        Subject.ring(2).identifiableCount().is(2);
        Subject.ring(3).identifiableCount().is(0);
        Subject.line(3).identifiableCount().is(0);
        ringOfHops(5, 2).identifiableCount().is(20);
        ringOfHops(4, 2).identifiableCount().is(8);
        Subject x = Subject.ring(3);
        x.measurePair(0, 1);
        x.identifiableCount().is(1);
    }

    // ---- promises 20 and 21

    private static void promise20LowestTerms() {
        Sentences.names(20, "Returns the numerator of an identified value as a fraction in lowest terms with a "
                + "denominator above 0");
        Subject x = ringOfHops(3, 2);
        // link 0 is x(0, 2) + x(2, 1), link 1 is x(1, 0) + x(0, 2), link 2 is x(2, 1) + x(1, 0)
        setLoads(x, 1, 0, 0);
        x.identifiedNumerator(0, 2).is(1);
        x.identifiedNumerator(1, 0).is(-1);
        setLoads(x, 2, 0, 0);
        x.identifiedNumerator(0, 2).is(1);
        x.identifiedNumerator(1, 0).is(-1);
        setLoads(x, 3, 0, 0);
        x.identifiedNumerator(0, 2).is(3);
        x.identifiedNumerator(1, 0).is(-3);
        setLoads(x, MOST_LOAD, MOST_LOAD - 1, 0);
        x.identifiedNumerator(0, 2).is(2 * MOST_LOAD - 1);
        x.identifiedNumerator(1, 0).is(-1);
        x.identifiedNumerator(2, 1).is(1);
        setLoads(x, MOST_LOAD, MOST_LOAD, 0);
        x.identifiedNumerator(0, 2).is(MOST_LOAD);
    }

    /** The last link of the line comes first, so that the rows must be subtracted the other way round. */
    private static void promise20Signs() {
        Sentences.names(20, "a fraction in lowest terms with a denominator above 0");
        Subject x = Subject.ofNodes(3);
        x.addLink(1, 2, 1);
        x.addLink(0, 1, 1);
        x.setDemand(0, 1, 4);
        x.measurePair(0, 1);
        setLoads(x, 1, 4);
        identified(x, 0, 2, 0, 1);
        identified(x, 1, 2, 1, 1);
        setLoads(x, 1, 6);
        identified(x, 0, 2, 2, 1);
        identified(x, 1, 2, -1, 1);
        setLoads(x, 1, 3);
        identified(x, 0, 2, -1, 1);
        identified(x, 1, 2, 2, 1);
    }

    private static void promise20Zero() {
        Sentences.names(20, "(0 is 0/1)");
        Subject halves = ringOfHops(3, 2);
        identified(halves, 0, 2, 0, 1);
        identified(halves, 0, 1, 0, 1);
        setLoads(halves, 7, 0, 7);
        identified(halves, 0, 2, 0, 1);
        identified(halves, 2, 1, 7, 1);
        identified(ringOfHops(5, 4), 0, 4, 0, 1);
        identified(Subject.line(2), 0, 1, 0, 1);
    }

    /** Each of the cases alone, with the others not there. */
    private static void noValueCases(Numbers numbers) {
        Subject one = Subject.line(2);
        one.setMeasuredLoad(0, 3);
        numbers.of(one, 0, 1).isNoError();
        for (int node : Edges.outside(0, 1)) {
            numbers.of(one, 0, node).is(NO_VALUE);
            numbers.of(one, node, 1).is(NO_VALUE);
        }
        numbers.of(one, 0, 0).is(NO_VALUE);
        numbers.of(one, 1, 1).is(NO_VALUE);
        numbers.of(one, 1, 0).is(NO_VALUE);
        one.addLink(0, 1, 2);
        numbers.of(one, 0, 1).isNoError();
        one.setMeasuredLoad(1, 1);
        numbers.of(one, 0, 1).is(NO_VALUE);
        Subject line = Subject.line(3);
        numbers.of(line, 0, 1).is(NO_VALUE);
        numbers.of(line, 0, 2).is(NO_VALUE);
        numbers.of(line, 1, 2).is(NO_VALUE);
        line.measurePair(0, 1);
        numbers.of(line, 1, 2).isNoError();
        numbers.of(new Subject(), 0, 1).is(NO_VALUE);
    }

    private interface Numbers {
        Answer of(Subject x, int s, int t);
    }

    private static void promise20NoValue() {
        Sentences.names(20, "NO_VALUE if a node does not exist, both are the same, the pair has no route or is not "
                + "identifiable, or the equations are not consistent.");
        noValueCases(Subject::identifiedNumerator);
    }

    private static void promise21() {
        Sentences.names(21, "Returns the denominator of an identified value (see identifiedNumerator).");
        int[] hops = {1, 2, 3, 4};
        for (int h : hops) {
            Subject x = ringOfHops(5, h);
            setLoads(x, 1);
            x.identifiedDenominator(0, h).is(h);
            setLoads(x, 2);
            x.identifiedDenominator(0, h).is(h % 2 == 0 ? h / 2 : h);
            setLoads(x, MOST_LOAD);
            x.identifiedDenominator(0, h).is(1);
            setLoads(x, 0);
            x.identifiedDenominator(0, h).is(1);
        }
        Subject x = Subject.line(3);
        x.setDemand(0, 2, MOST_DEMAND);
        x.measurePair(0, 2);
        x.identifiedDenominator(0, 2).is(1);
        x.identifiedDenominator(0, 1).is(1);
    }

    private static void promise21NoValue() {
        Sentences.names(21, "NO_VALUE in the same cases as for identifiedNumerator.");
        noValueCases(Subject::identifiedDenominator);
    }

    // ---- promises 22 and 23

    /** From 0 over 1 to 2 and from 3 to 2, and then to 4; the pairs of 3 hang on fewer others. */
    private static void promise22Best() {
        Sentences.names(22, "Finds the pair that is best measured next: the pair with a route, not identifiable now, for "
                + "which the number of identifiable pairs would be greatest if it were measured");
        Subject x = Subject.ofNodes(5).withAllDemands(5, 77);
        x.addLink(0, 1, 1);
        x.addLink(1, 2, 1);
        x.addLink(3, 2, 1);
        x.addLink(2, 4, 1);
        // link 2 has x(3, 2) and x(3, 4) alone, so that one tells the other; all else brings itself
        x.bestPair().is(32);
        x.measure();
        x.bestPair().is(32);
        x.measurePair(3, 4);
        x.identifiableCount().is(2);
        // now x(0, 1), x(0, 2), x(0, 4), x(1, 2), x(1, 4), x(2, 4) are left: each brings itself alone
        x.bestPair().is(1);
        x.measurePair(0, 1);
        // x(0, 2) brings x(0, 4)
        x.bestPair().is(2);
        x.measurePair(0, 2);
        x.identifiableCount().is(5);
        x.bestPair().is(12);
    }

    /** What is left to know is x(0, 1) + 2 * x(2, 1), and likewise with the two others. */
    private static void promise22BestByMultiples() {
        Sentences.names(22, "for which the number of identifiable pairs would be greatest if it were measured");
        Subject x = Subject.ring(3);
        x.measurePair(1, 2);
        x.measurePair(2, 0);
        x.identifiableCount().is(2);
        x.bestPair().is(1);
        setLoads(x, 5, 6, 7);
        x.bestPair().is(1);
        x.measurePair(0, 1);
        x.identifiableCount().is(6);
        x.bestPair().is(TrafficMatrix.NONE);
    }

    private static void promise22LowestSource() {
        Sentences.names(22, "of several, the one with the lowest source");
        Subject x = Subject.ofNodes(4);
        x.addLink(3, 2, 1);
        x.addLink(2, 0, 1);
        // (2, 0), (3, 0) and (3, 2) bring all three each
        x.bestPair().is(20);
        Subject y = Subject.ofNodes(4);
        y.addLink(1, 3, 1);
        y.addLink(2, 1, 1);
        // (1, 3), (2, 1) and (2, 3)
        y.bestPair().is(13);
    }

    private static void promise22LowestTarget() {
        Sentences.names(22, "and then the lowest target.");
        Subject x = Subject.ofNodes(5);
        x.addLink(0, 4, 1);
        x.addLink(4, 1, 1);
        // (0, 1), (0, 4) and (4, 1)
        x.bestPair().is(1);
        Subject y = Subject.ofNodes(5);
        y.addLink(4, 2, 1);
        y.addLink(0, 1, 1);
        y.addLink(2, 3, 1);
        y.addLink(1, 2, 1);
        // (4, 2) and (4, 3) bring each other, all others only themselves
        y.bestPair().is(42);
    }

    private static void promise22NothingIsMeasured() {
        Sentences.names(22, "Nothing is measured by this method.");
        Subject x = Subject.line(3);
        x.bestPair().is(1);
        x.bestPair().is(1);
        x.rank().is(2);
        x.identifiableCount().is(0);
        x.forgetPair(0, 1).is(TrafficMatrix.NONE);
        Sentences.changesNothing(StartingPoint.FULL::make, y -> y.bestPair().isNoError());
        Sentences.changesNothing(() -> ringOfHops(4, 2), y -> y.bestPair().is(2));
    }

    /** A line from a higher node over s to t, for each pair (s, t) that such a line can have. */
    private static void promise22Codes() {
        Sentences.names(22, "Returns 10 * source + target");
        for (int s = 0; s < 4; s++) {
            for (int t = 0; t < 5; t++) {
                int first = t == 4 ? 3 : 4;
                if (t != s && s < first) {
                    Subject x = Subject.ofNodes(5);
                    x.addLink(first, s, 1);
                    x.addLink(s, t, 1);
                    // (first, s), (first, t) and (s, t) bring all three each
                    x.bestPair().is(10 * s + t);
                }
            }
        }
    }

    private static void promise22None() {
        Sentences.names(22, "NONE if all pairs with a route are identifiable.");
        for (int nodes = 2; nodes <= 5; nodes++) {
            Subject.ofNodes(nodes).bestPair().is(TrafficMatrix.NONE);
            ringOfHops(nodes, 1).bestPair().is(TrafficMatrix.NONE);
        }
        Subject x = Subject.line(3);
        x.measurePair(0, 2);
        x.bestPair().is(TrafficMatrix.NONE);
        // also if the equations have no solution
        x.addLink(0, 1, 1);
        x.setMeasuredLoad(2, 1);
        x.isConsistent().is(0);
        x.bestPair().is(TrafficMatrix.NONE);
        x.forgetPair(0, 2);
        x.bestPair().is(1);
    }

    private static void promise23Counts() {
        Sentences.names(23, "Counts the pairs whose route uses a link.");
        Subject x = Subject.hub();
        x.pairsOnLink(0).is(13);
        x.addLink(0, 1, 1).is(7);
        x.pairsOnLink(7).is(0);
        x.setMetric(0, 2);
        x.pairsOnLink(0).is(0);
        x.pairsOnLink(7).is(13);
        // a pair counts whatever its demand is, and whether it is measured or not
        Subject y = Subject.line(3);
        y.pairsOnLink(0).is(2);
        y.setDemand(0, 1, MOST_DEMAND);
        y.measurePair(0, 1);
        y.measure();
        y.pairsOnLink(0).is(2);
    }

    private static void promise23Returns() {
        Sentences.names(23, "Returns their number");
        for (int nodes = 2; nodes <= 5; nodes++) {
            Subject x = Subject.ring(nodes);
            for (int link = 0; link < nodes; link++) {
                x.pairsOnLink(link).is(nodes * (nodes - 1) / 2);
            }
        }
    }
}
