/** Promises 16 to 23: what the equations determine. */
public final class EquationTest {
    private static final Due DUE = new Due("EquationTest");

    public static void main(String[] args) {
        promise16Rank();
        promise17IsConsistent();
        promise18IsIdentifiable();
        promise19IdentifiableCount();
        promises20And21IdentifiedValue();
        halves();
        fourths();
        twelveLinks();
        promise22BestPair();
        bestPairIsTheFirstOfEquals();
        bestPairMayBeALaterOne();
        promise23PairsOnLink();
        DUE.end();
    }

    private static TrafficMatrix line() {
        TrafficMatrix x = new TrafficMatrix();
        x.addLink(0, 1, 1);
        x.addLink(1, 2, 1);
        return x;
    }

    /** On a ring of three the pairs over two links have the matrix 110, 011, 101, of determinant 2. */
    private static TrafficMatrix ring() {
        TrafficMatrix x = new TrafficMatrix();
        x.addLink(0, 1, 1);
        x.addLink(1, 2, 1);
        x.addLink(2, 0, 1);
        return x;
    }

    private static void promise16Rank() {
        TrafficMatrix x = line();
        DUE.is("rank()", x.rank(), 2);
        x.addLink(0, 1, 1);
        DUE.is("rank() with an unused link", x.rank(), 2);
        x.measurePair(0, 2);
        DUE.is("rank() with a measured pair", x.rank(), 3);
        x.measurePair(0, 1);
        DUE.is("rank() with a pair that was identifiable", x.rank(), 3);
        x.measurePair(1, 2);
        DUE.is("rank() with all pairs measured", x.rank(), 3);
        x.forgetPair(0, 1);
        x.forgetPair(0, 2);
        x.forgetPair(1, 2);
        DUE.is("rank() with all pairs forgotten", x.rank(), 2);
        x.reset(2);
        x.addLink(0, 1, 1);
        x.addLink(1, 0, 1);
        DUE.is("rank() of two nodes", x.rank(), 2);
    }

    private static void promise17IsConsistent() {
        TrafficMatrix x = line();
        x.setMeasuredLoad(0, 5);
        DUE.is("isConsistent()", x.isConsistent(), 1);
        x.setDemand(0, 2, 6);
        x.measurePair(0, 2);
        DUE.is("a negative solution is one", x.isConsistent(), 1);
        x.measurePair(0, 1);
        DUE.is("0 + 6 = 5 is not", x.isConsistent(), 0);
        x.setMeasuredLoad(0, 6);
        DUE.is("0 + 6 = 6 is", x.isConsistent(), 1);
        x.addLink(0, 1, 2);
        DUE.is("an unused link without a load", x.isConsistent(), 1);
        x.setMeasuredLoad(2, 1);
        DUE.is("an unused link with a load", x.isConsistent(), 0);
    }

    private static void promise18IsIdentifiable() {
        TrafficMatrix x = line();
        DUE.is("isIdentifiable(3, 3)", x.isIdentifiable(3, 3), TrafficMatrix.NO_SUCH_NODE);
        DUE.is("isIdentifiable(0, -1)", x.isIdentifiable(0, -1), TrafficMatrix.NO_SUCH_NODE);
        DUE.is("isIdentifiable(0, 0)", x.isIdentifiable(0, 0), TrafficMatrix.SAME_NODE);
        DUE.is("isIdentifiable(2, 0)", x.isIdentifiable(2, 0), TrafficMatrix.NO_ROUTE);
        DUE.is("isIdentifiable(0, 2)", x.isIdentifiable(0, 2), 0);
        x.measurePair(1, 2);
        DUE.is("isIdentifiable(1, 2), measured", x.isIdentifiable(1, 2), 1);
        DUE.is("isIdentifiable(0, 2), by link 1", x.isIdentifiable(0, 2), 1);
        DUE.is("isIdentifiable(0, 1), by both", x.isIdentifiable(0, 1), 1);
        x.addLink(0, 1, 9);
        x.setMeasuredLoad(2, 1);
        DUE.is("inconsistent", x.isConsistent(), 0);
        DUE.is("identifiable all the same", x.isIdentifiable(0, 1), 1);
        x.forgetPair(1, 2);
        DUE.is("isIdentifiable(0, 1), forgotten", x.isIdentifiable(0, 1), 0);
        x.addLink(0, 2, 1);
        DUE.is("isIdentifiable(0, 1), alone on its link", x.isIdentifiable(0, 1), 1);
    }

    private static void promise19IdentifiableCount() {
        TrafficMatrix x = new TrafficMatrix();
        DUE.is("identifiableCount() without links", x.identifiableCount(), 0);
        x = line();
        DUE.is("identifiableCount()", x.identifiableCount(), 0);
        x.measurePair(0, 1);
        DUE.is("identifiableCount(), measured", x.identifiableCount(), 3);
        x.addLink(2, 0, 1);
        DUE.is("identifiableCount() on a ring", x.identifiableCount(), 1);
        x.addLink(0, 2, 1);
        x.addLink(1, 0, 1);
        x.addLink(2, 1, 1);
        DUE.is("identifiableCount() of direct links", x.identifiableCount(), 6);
    }

    private static void promises20And21IdentifiedValue() {
        TrafficMatrix x = line();
        identified(x, 0, 3, Due.NO_VALUE, Due.NO_VALUE);
        identified(x, -1, 0, Due.NO_VALUE, Due.NO_VALUE);
        identified(x, 1, 1, Due.NO_VALUE, Due.NO_VALUE);
        identified(x, 2, 0, Due.NO_VALUE, Due.NO_VALUE);
        identified(x, 0, 1, Due.NO_VALUE, Due.NO_VALUE);
        x.setDemand(0, 2, 9);
        x.measurePair(0, 2);
        x.setMeasuredLoad(0, 5);
        x.setMeasuredLoad(1, 9);
        identified(x, 0, 2, 9, 1);
        identified(x, 0, 1, -4, 1);
        identified(x, 1, 2, 0, 1);
        x.setMeasuredLoad(1, 199980);
        identified(x, 1, 2, 199971, 1);
        x.addLink(0, 1, 9);
        x.setMeasuredLoad(2, 1);
        identified(x, 0, 2, Due.NO_VALUE, Due.NO_VALUE);
        identified(x, 1, 2, Due.NO_VALUE, Due.NO_VALUE);
    }

    private static void halves() {
        TrafficMatrix x = ring();
        for (int s = 0; s < 3; s++) {
            x.setDemand(s, (s + 1) % 3, 10);
            x.measurePair(s, (s + 1) % 3);
        }
        x.setMeasuredLoad(0, 11);
        x.setMeasuredLoad(1, 12);
        x.setMeasuredLoad(2, 16);
        // x02 + x21 = 1, x02 + x10 = 2, x10 + x21 = 6
        identified(x, 0, 2, -3, 2);
        identified(x, 2, 1, 5, 2);
        identified(x, 1, 0, 7, 2);
        x.setMeasuredLoad(2, 15);
        identified(x, 0, 2, -1, 1);
        identified(x, 2, 1, 2, 1);
        identified(x, 1, 0, 3, 1);
    }

    /** On a ring of five each pair over four links leaves out one link: the determinant is 4. */
    private static void fourths() {
        TrafficMatrix x = new TrafficMatrix();
        x.reset(5);
        for (int s = 0; s < 5; s++) {
            x.addLink(s, (s + 1) % 5, 1);
        }
        for (int s = 0; s < 5; s++) {
            for (int hops = 1; hops < 4; hops++) {
                x.measurePair(s, (s + hops) % 5);
            }
        }
        DUE.is("fourths: rank()", x.rank(), 20);
        DUE.is("fourths: identifiableCount()", x.identifiableCount(), 20);
        int[] loads = {199980, 199979, 5, 3, 1};
        for (int link = 0; link < 5; link++) {
            x.setMeasuredLoad(link, loads[link]);
        }
        // the loads sum up to 4 times all five, 399968 / 4 = 99992, and the pair that leaves out
        // a link is all less its load
        identified(x, 1, 0, 99992 - 199980, 1);
        identified(x, 2, 1, 99992 - 199979, 1);
        identified(x, 0, 4, 99992 - 1, 1);
        x.setMeasuredLoad(4, 2);
        identified(x, 1, 0, 399969 - 4 * 199980, 4);
        identified(x, 0, 4, 399969 - 4 * 2, 4);
        x.setMeasuredLoad(4, 3);
        identified(x, 1, 0, (399970 - 4 * 199980) / 2, 2);
        identified(x, 4, 3, (399970 - 4 * 3) / 2, 2);
    }

    private static void twelveLinks() {
        TrafficMatrix x = new TrafficMatrix();
        x.reset(4);
        for (int s = 0; s < 4; s++) {
            for (int t = 0; t < 4; t++) {
                x.addLink(s, t, 1);
                x.setDemand(s, t, 10 * s + t);
            }
        }
        x.measure();
        DUE.is("twelve links: rank()", x.rank(), 12);
        DUE.is("twelve links: isConsistent()", x.isConsistent(), 1);
        DUE.is("twelve links: identifiableCount()", x.identifiableCount(), 12);
        DUE.is("twelve links: bestPair()", x.bestPair(), TrafficMatrix.NONE);
        identified(x, 3, 2, 32, 1);
        x.setMetric(11, 3);
        DUE.is("twelve links: pairsOnLink(11)", x.pairsOnLink(11), 0);
        DUE.is("twelve links: rank() with one unused", x.rank(), 11);
        DUE.is("twelve links: isConsistent() with one unused", x.isConsistent(), 0);
        DUE.is("twelve links: bestPair() with one unused", x.bestPair(), 2);
    }

    private static void identified(TrafficMatrix x, int s, int t, long numerator, long denominator) {
        String pair = "(" + s + ", " + t + ")";
        DUE.is("identifiedNumerator" + pair, x.identifiedNumerator(s, t), numerator);
        DUE.is("identifiedDenominator" + pair, x.identifiedDenominator(s, t), denominator);
    }

    private static void promise22BestPair() {
        TrafficMatrix x = new TrafficMatrix();
        DUE.is("bestPair() without links", x.bestPair(), TrafficMatrix.NONE);
        x = line();
        DUE.is("bestPair()", x.bestPair(), 1);
        DUE.is("nothing is measured", x.forgetPair(0, 1), TrafficMatrix.NONE);
        DUE.is("nothing is measured: rank()", x.rank(), 2);
        x.measurePair(0, 1);
        DUE.is("bestPair(), all identifiable", x.bestPair(), TrafficMatrix.NONE);
        x.forgetPair(0, 1);
        x.addLink(0, 2, 1);
        DUE.is("bestPair(), all alone", x.bestPair(), TrafficMatrix.NONE);
    }

    private static void bestPairIsTheFirstOfEquals() {
        TrafficMatrix x = ring();
        // each pair, measured alone, makes itself identifiable and no other one
        DUE.is("bestPair() on a ring", x.bestPair(), 1);
        x.measurePair(0, 1);
        DUE.is("bestPair() on a ring, then", x.bestPair(), 2);
        x.measurePair(0, 2);
        DUE.is("bestPair() after x01 and x02", x.bestPair(), 10);
    }

    private static void bestPairMayBeALaterOne() {
        TrafficMatrix x = new TrafficMatrix();
        x.reset(4);
        x.addLink(0, 1, 1);
        x.addLink(1, 2, 1);
        x.addLink(2, 3, 1);
        DUE.is("bestPair() on a line of four", x.bestPair(), 1);
        x.measurePair(2, 3);
        // left: x01 + x02 + x03, x02 + x12 (the second link less the third one), x03 + x13:
        // x01 brings none but itself, x02 brings x12
        DUE.is("bestPair() after x23", x.bestPair(), 2);
        x.measurePair(0, 2);
        // left: x01 + x03 and x03 + x13: each of the three brings the two others
        DUE.is("bestPair() after x23 and x02", x.bestPair(), 1);
        x.measurePair(0, 1);
        DUE.is("bestPair() after x23, x02 and x01", x.bestPair(), TrafficMatrix.NONE);
        x.forgetPair(2, 3);
        x.forgetPair(0, 1);
        x.measurePair(0, 3);
        // left: x12 + x13 and x13 + x23, while x01 is identifiable
        DUE.is("isIdentifiable(0, 1) after x02 and x03", x.isIdentifiable(0, 1), 1);
        DUE.is("bestPair() after x02 and x03", x.bestPair(), 12);
    }

    private static void promise23PairsOnLink() {
        TrafficMatrix x = new TrafficMatrix();
        DUE.is("pairsOnLink(0) without links", x.pairsOnLink(0), TrafficMatrix.NO_SUCH_LINK);
        x = ring();
        DUE.is("pairsOnLink(-1)", x.pairsOnLink(-1), TrafficMatrix.NO_SUCH_LINK);
        DUE.is("pairsOnLink(3)", x.pairsOnLink(3), TrafficMatrix.NO_SUCH_LINK);
        DUE.is("pairsOnLink(0)", x.pairsOnLink(0), 3);
        x.addLink(0, 2, 1);
        DUE.is("pairsOnLink(0), less", x.pairsOnLink(0), 2);
        DUE.is("pairsOnLink(3)", x.pairsOnLink(3), 1);
        x.setMetric(3, 3);
        DUE.is("pairsOnLink(3), unused", x.pairsOnLink(3), 0);
    }
}
