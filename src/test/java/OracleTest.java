import java.util.Random;

/** Random runs of calls, wrong arguments among them, against the oracle; the seeds are fixed. */
public final class OracleTest {
    private static final Due DUE = new Due("OracleTest");
    private static final int CALLS = 150;

    private static int fractions = 0;

    private final Random random;
    private final TrafficMatrix x = new TrafficMatrix();
    private final Oracle oracle = new Oracle();
    private final String run;
    private final int greatestMetric;
    private int nodes = 3;

    private OracleTest(int seed) {
        random = new Random(seed);
        run = "run " + seed + ": ";
        // with few metrics there are many routes of equal sums
        greatestMetric = seed % 3 == 0 ? 99 : seed % 3 == 1 ? 3 : 1;
    }

    public static void main(String[] args) {
        int runs = args.length > 0 ? Integer.parseInt(args[0]) : 400;
        int first = args.length > 1 ? Integer.parseInt(args[1]) : 1;
        for (int seed = first; seed < first + runs && DUE.allRight(); seed++) {
            new OracleTest(seed).play();
        }
        // else the runs would tell nothing of denominators
        System.out.println("fractions in " + fractions + " of " + runs + " runs");
        DUE.is("runs with fractions", fractions > runs / 20 ? 1 : 0, 1);
        DUE.end();
    }

    private void play() {
        build();
        for (int call = 0; call < CALLS && DUE.allRight(); call++) {
            switch (random.nextInt(8)) {
                case 0 -> changeNetwork();
                case 1, 2 -> changeValues();
                case 3 -> askNetwork();
                case 4 -> askEquations();
                case 5 -> askIdentified();
                default -> fit();
            }
        }
        askAll();
        setFreeLoads();
        askAll();
    }

    /** Loads at will are consistent where links are not more than the pairs left unmeasured. */
    private void setFreeLoads() {
        boolean onRing = random.nextBoolean();
        if (onRing) {
            nodes = 3 + random.nextInt(3);
            is("reset(" + nodes + ")", x.reset(nodes), oracle.reset(nodes));
            ring();
        }
        int used = 0;
        for (int link = 0; link < 12; link++) {
            int load = oracle.pairsOnLink(link) > 0 ? random.nextInt(199981) : 0;
            is("setMeasuredLoad(" + link + ", " + load + ")",
                    x.setMeasuredLoad(link, load), oracle.setMeasuredLoad(link, load));
            used += oracle.pairsOnLink(link) > 0 ? 1 : 0;
        }
        // on a ring the pairs of h links each, h prime to the nodes, have a matrix of determinant h
        int hops = 1 + random.nextInt(nodes - 1);
        int pairs = nodes * (nodes - 1);
        for (int s = 0; s < nodes; s++) {
            for (int t = 0; t < nodes; t++) {
                boolean left = onRing ? t == (s + hops) % nodes : random.nextInt(pairs) < used;
                if (!left || random.nextInt(50) == 0) {
                    setDemand();
                    is("measurePair(" + s + ", " + t + ")",
                            x.measurePair(s, t), oracle.measurePair(s, t));
                }
            }
        }
    }

    private void build() {
        nodes = 2 + random.nextInt(4);
        is("reset(" + nodes + ")", x.reset(nodes), oracle.reset(nodes));
        if (random.nextInt(3) == 0) {
            ring();
        }
        int links = random.nextInt(13);
        for (int link = 0; link < links; link++) {
            addLink();
        }
        for (int i = 0; i < 2 * nodes * nodes; i++) {
            setDemand();
        }
    }

    private void ring() {
        for (int s = 0; s < nodes; s++) {
            int t = (s + 1) % nodes;
            is("addLink(" + s + ", " + t + ", 1)", x.addLink(s, t, 1), oracle.addLink(s, t, 1));
        }
    }

    private void is(String call, long got, long want) {
        DUE.is(run + call, got, want);
    }

    private int rarely(int usual) {
        int[] odd = {-1, -2, 0, 1, 5, 6, 12, 50, 51, 99, 100, 9999, 10000, 199980, 199981,
            Integer.MIN_VALUE, Integer.MAX_VALUE};
        return random.nextInt(25) == 0 ? odd[random.nextInt(odd.length)] : usual;
    }

    private int node() {
        return rarely(random.nextInt(nodes));
    }

    private int link() {
        return rarely(random.nextInt(12));
    }

    private void addLink() {
        int s = node();
        int t = node();
        int metric = rarely(1 + random.nextInt(greatestMetric));
        is("addLink(" + s + ", " + t + ", " + metric + ")",
                x.addLink(s, t, metric), oracle.addLink(s, t, metric));
    }

    private void setDemand() {
        int s = node();
        int t = node();
        int value = rarely(random.nextInt(random.nextBoolean() ? 10000 : 20));
        is("setDemand(" + s + ", " + t + ", " + value + ")",
                x.setDemand(s, t, value), oracle.setDemand(s, t, value));
    }

    private void changeNetwork() {
        switch (random.nextInt(10)) {
            case 0 -> addLink();
            case 1 -> {
                int wrong = random.nextBoolean() ? 1 - random.nextInt(5) : 6 + random.nextInt(5);
                is("reset(" + wrong + ")", x.reset(wrong), oracle.reset(wrong));
            }
            case 2 -> {
                if (random.nextInt(4) == 0) {
                    build();
                }
            }
            default -> {
                int link = link();
                int metric = rarely(1 + random.nextInt(greatestMetric));
                is("setMetric(" + link + ", " + metric + ")",
                        x.setMetric(link, metric), oracle.setMetric(link, metric));
            }
        }
    }

    private void changeValues() {
        int s = node();
        int t = node();
        switch (random.nextInt(6)) {
            case 0 -> setDemand();
            case 1 -> is("measure()", x.measure(), oracle.measure());
            case 2 -> {
                int link = link();
                int value = rarely(random.nextInt(random.nextBoolean() ? 199981 : 30));
                is("setMeasuredLoad(" + link + ", " + value + ")",
                        x.setMeasuredLoad(link, value), oracle.setMeasuredLoad(link, value));
            }
            case 3 -> is("forgetPair(" + s + ", " + t + ")", x.forgetPair(s, t), oracle.forgetPair(s, t));
            default -> is("measurePair(" + s + ", " + t + ")",
                    x.measurePair(s, t), oracle.measurePair(s, t));
        }
    }

    private void askNetwork() {
        int s = node();
        int t = node();
        int k = rarely(random.nextInt(5)) - random.nextInt(2);
        int link = link();
        is("routeLength(" + s + ", " + t + ")", x.routeLength(s, t), oracle.routeLength(s, t));
        is("routeLink(" + s + ", " + t + ", " + k + ")", x.routeLink(s, t, k), oracle.routeLink(s, t, k));
        is("carriedLoad(" + link + ")", x.carriedLoad(link), oracle.carriedLoad(link));
        is("pairsOnLink(" + link + ")", x.pairsOnLink(link), oracle.pairsOnLink(link));
        is("measuredLoad(" + link + ")", x.measuredLoad(link), oracle.measuredLoad(link));
        is("outTotal(" + s + ")", x.outTotal(s), oracle.outTotal(s));
        is("inTotal(" + s + ")", x.inTotal(s), oracle.inTotal(s));
    }

    private void askEquations() {
        switch (random.nextInt(4)) {
            case 0 -> is("rank()", x.rank(), oracle.rank());
            case 1 -> is("isConsistent()", x.isConsistent(), oracle.isConsistent());
            case 2 -> is("identifiableCount()", x.identifiableCount(), oracle.identifiableCount());
            default -> is("bestPair()", x.bestPair(), oracle.bestPair());
        }
    }

    private void askIdentified() {
        int s = node();
        int t = node();
        String pair = "(" + s + ", " + t + ")";
        switch (random.nextInt(3)) {
            case 0 -> is("isIdentifiable" + pair, x.isIdentifiable(s, t), oracle.isIdentifiable(s, t));
            case 1 -> is("identifiedNumerator" + pair,
                    x.identifiedNumerator(s, t), oracle.identifiedNumerator(s, t));
            default -> is("identifiedDenominator" + pair,
                    x.identifiedDenominator(s, t), oracle.identifiedDenominator(s, t));
        }
    }

    private void fit() {
        int times = rarely(1 + random.nextInt(3));
        switch (random.nextInt(4)) {
            case 0 -> is("applyGravity()", x.applyGravity(), oracle.applyGravity());
            case 1 -> is("fitTotals(" + times + ")", x.fitTotals(times), oracle.fitTotals(times));
            case 2 -> is("fitLinks(" + times + ")", x.fitLinks(times), oracle.fitLinks(times));
            default -> {
                int s = node();
                int t = node();
                int link = link();
                is("estimate(" + s + ", " + t + ")", x.estimate(s, t), oracle.estimate(s, t));
                is("residual(" + link + ")", x.residual(link), oracle.residual(link));
                is("totalError()", x.totalError(), oracle.totalError());
            }
        }
    }

    private void askAll() {
        is("bestPair()", x.bestPair(), oracle.bestPair());
        is("isConsistent()", x.isConsistent(), oracle.isConsistent());
        is("totalError()", x.totalError(), oracle.totalError());
        boolean fraction = false;
        for (int s = -1; s <= 5; s++) {
            for (int t = -1; t <= 5; t++) {
                String pair = "(" + s + ", " + t + ")";
                long denominator = oracle.identifiedDenominator(s, t);
                fraction = fraction || denominator > 1;
                is("routeLength" + pair, x.routeLength(s, t), oracle.routeLength(s, t));
                is("estimate" + pair, x.estimate(s, t), oracle.estimate(s, t));
                is("isIdentifiable" + pair, x.isIdentifiable(s, t), oracle.isIdentifiable(s, t));
                is("identifiedNumerator" + pair,
                        x.identifiedNumerator(s, t), oracle.identifiedNumerator(s, t));
                is("identifiedDenominator" + pair, x.identifiedDenominator(s, t), denominator);
            }
        }
        fractions += fraction ? 1 : 0;
        forgetAll();
    }

    private void forgetAll() {
        for (int s = -1; s <= 5; s++) {
            for (int t = -1; t <= 5; t++) {
                is("forgetPair(" + s + ", " + t + ")", x.forgetPair(s, t), oracle.forgetPair(s, t));
            }
        }
    }
}
