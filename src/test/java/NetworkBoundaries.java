/** Nodes, links and routes: promises 1 to 6, and what the description says of them. */
final class NetworkBoundaries {
    private NetworkBoundaries() {
    }

    static void run() {
        nodesAreTwoToFive();
        linksAreNumberedInOrder();
        linksHaveADirection();
        linksLeadToAnotherNode();
        severalLinksBetweenTheSameNodes();
        pairsAreOfTwoNodes();
        routesHaveTheLeastSum();
        routesOfTheGreatestSums();
        routesHaveTheFewestLinks();
        routesDifferFirstAtALowerNumber();
        routesDifferAtEachPlace();
        pairsWithoutAPath();
        routesFollowNewLinks();
        routesFollowNewMetrics();
        promise1();
        promise2StartsAnew();
        promise2FromManyNodesToFewAndBack();
        promise2Nodes();
        promise2Returns();
        promise3Adds();
        promise3NoLoad();
        promise3Source();
        promise3Target();
        promise3Metric();
        promise4Sets();
        promise4Link();
        promise4Metric();
        promise5Returns();
        promise6Place();
    }

    // ---- the description

    private static void nodesAreTwoToFive() {
        Sentences.names(0, "There are 2 to 5 nodes, numbered from 0");
        for (int nodes = 2; nodes <= 5; nodes++) {
            Subject x = Subject.ofNodes(nodes);
            for (int node = 0; node < nodes; node++) {
                x.outTotal(node).is(0);
                x.inTotal(node).is(0);
            }
            x.setDemand(0, nodes - 1, 1).is(0);
            x.setDemand(nodes - 1, 0, 1).is(0);
            for (int node : Edges.outside(0, nodes - 1)) {
                x.outTotal(node).is(TrafficMatrix.NO_SUCH_NODE);
                x.inTotal(node).is(TrafficMatrix.NO_SUCH_NODE);
                x.addLink(node, 0, 1).is(TrafficMatrix.NO_SUCH_NODE);
                x.addLink(0, node, 1).is(TrafficMatrix.NO_SUCH_NODE);
            }
        }
    }

    private static void linksAreNumberedInOrder() {
        Sentences.names(0, "up to 12 directed links, numbered from 0 in the order in which they are added.");
        Subject x = Subject.ofNodes(5);
        for (int link = 0; link < 12; link++) {
            x.measuredLoad(link).is(TrafficMatrix.NO_SUCH_LINK);
            x.addLink(link % 5, (link + 2) % 5, link + 1).is(link);
            x.measuredLoad(link).is(0);
        }
        x.addLink(0, 1, 1).is(TrafficMatrix.FULL);
        x.measuredLoad(12).is(TrafficMatrix.NO_SUCH_LINK);
        for (int link = 0; link < 12; link++) {
            x.setMetric(link, 50).is(link + 1);
        }
        x.reset(5).is(12);
    }

    private static void linksHaveADirection() {
        Sentences.names(0, "up to 12 directed links");
        Subject x = Subject.ofNodes(2);
        x.addLink(1, 0, 1);
        x.routeLength(1, 0).is(1);
        x.routeLength(0, 1).is(TrafficMatrix.NO_ROUTE);
    }

    private static void linksLeadToAnotherNode() {
        Sentences.names(0, "A link leads from one node to another one and has a metric from 1 to 99.");
        for (int node = 0; node < 5; node++) {
            Subject.ofNodes(5).addLink(node, node, 1).is(TrafficMatrix.SAME_NODE);
        }
        Subject x = Subject.ofNodes(2);
        x.addLink(0, 1, 0).is(TrafficMatrix.BAD_VALUE);
        x.addLink(0, 1, 100).is(TrafficMatrix.BAD_VALUE);
        x.addLink(0, 1, 1).is(0);
        x.addLink(0, 1, 99).is(1);
        x.setMetric(0, 1).is(1);
        x.setMetric(1, 99).is(99);
    }

    private static void severalLinksBetweenTheSameNodes() {
        Sentences.names(0, "Several links may lead from the same node to the same node.");
        Subject x = Subject.ofNodes(2);
        for (int link = 0; link < 12; link++) {
            x.addLink(0, 1, 7).is(link);
        }
        x.setDemand(0, 1, 9);
        for (int link = 0; link < 12; link++) {
            x.routeLength(0, 1).is(1);
            x.routeLink(0, 1, 0).is(link);
            x.carriedLoad(link).is(9);
            x.pairsOnLink(link).is(1);
            x.setMetric(link, 8).is(7);
        }
        // all have the metric 8 now
        x.routeLink(0, 1, 0).is(0);
        x.setMetric(11, 7);
        x.routeLink(0, 1, 0).is(11);
        x.carriedLoad(0).is(0);
    }

    private static void pairsAreOfTwoNodes() {
        Sentences.names(0, "A pair (s, t) consists of two different nodes; s is its source and t its target.");
        Subject x = Subject.ring(3);
        for (int node = 0; node < 3; node++) {
            x.routeLength(node, node).is(TrafficMatrix.SAME_NODE);
            x.setDemand(node, node, 1).is(TrafficMatrix.SAME_NODE);
        }
        x.setDemand(0, 1, 5).is(0);
        x.setDemand(1, 0, 6).is(0);
        x.setDemand(0, 1, 7).is(5);
        x.routeLength(0, 1).is(1);
        x.routeLength(1, 0).is(2);
        x.measurePair(1, 0).is(6);
        x.forgetPair(0, 1).is(TrafficMatrix.NONE);
        x.forgetPair(1, 0).is(6);
    }

    /** A line of five with metrics of 24, and link 4 from its first node to its last one. */
    private static void routesHaveTheLeastSum() {
        Sentences.names(0, "a path of links from s to t with the least sum of metrics");
        Subject x = Subject.line(5);
        for (int link = 0; link < 4; link++) {
            x.setMetric(link, 24);
        }
        x.addLink(0, 4, 97);
        x.routeLength(0, 4).is(4);
        x.setMetric(4, 95);
        x.routeLength(0, 4).is(1);
        x.routeLink(0, 4, 0).is(4);
        x.setMetric(4, 97);
        x.setMetric(3, 26);
        x.routeLength(0, 4).is(1);
        x.setMetric(0, 22);
        x.routeLength(0, 4).is(4);
    }

    private static void routesOfTheGreatestSums() {
        Sentences.names(0, "the least sum of metrics");
        Subject x = Subject.ring(5);
        for (int link = 0; link < 5; link++) {
            x.setMetric(link, 99);
        }
        for (int s = 0; s < 5; s++) {
            for (int hops = 1; hops < 5; hops++) {
                x.routeLength(s, (s + hops) % 5).is(hops);
                x.routeLink(s, (s + hops) % 5, hops - 1).is((s + hops - 1) % 5);
            }
        }
        Subject y = Subject.line(5);
        y.addLink(0, 4, 5);
        y.routeLength(0, 4).is(4);
        y.setMetric(4, 3);
        y.routeLength(0, 4).is(1);
    }

    /** All paths from 0 to 4 have the sum 4; those with fewer links have the higher numbers. */
    private static void routesHaveTheFewestLinks() {
        Sentences.names(0, "among these, one with the fewest links");
        Subject x = Subject.line(5);
        x.addLink(0, 2, 2);
        x.addLink(0, 3, 3);
        x.addLink(0, 4, 4);
        x.routeLength(0, 4).is(1);
        x.routeLink(0, 4, 0).is(6);
        x.setMetric(6, 5);
        x.routeLength(0, 4).is(2);
        x.routeLink(0, 4, 0).is(5);
        x.routeLink(0, 4, 1).is(3);
        x.setMetric(5, 4);
        x.routeLength(0, 4).is(3);
        x.routeLink(0, 4, 0).is(4);
        x.setMetric(4, 3);
        x.routeLength(0, 4).is(4);
        x.routeLink(0, 4, 0).is(0);
    }

    private static void routesDifferFirstAtALowerNumber() {
        Sentences.names(0, "among these, the one that has the link with the lower number where they differ first.");
        Subject x = Subject.ofNodes(4);
        // 0-1-3 takes links 0 and 5, 0-2-3 takes links 1 and 2: 0 is the lower first one
        x.addLink(0, 1, 3);
        x.addLink(0, 2, 3);
        x.addLink(2, 3, 3);
        x.addLink(3, 0, 1);
        x.addLink(3, 1, 1);
        x.addLink(1, 3, 3);
        x.routeLink(0, 3, 0).is(0);
        x.routeLink(0, 3, 1).is(5);
        Subject y = Subject.ofNodes(4);
        // 0-1-3 takes links 3 and 0, 0-2-3 takes links 2 and 1: 2 is the lower first one
        y.addLink(1, 3, 1);
        y.addLink(2, 3, 1);
        y.addLink(0, 2, 1);
        y.addLink(0, 1, 1);
        y.routeLink(0, 3, 0).is(2);
        y.routeLink(0, 3, 1).is(1);
    }

    /** Three links for each step of a line, the last step first: the lowest at each place is taken. */
    private static void routesDifferAtEachPlace() {
        Sentences.names(0, "the link with the lower number where they differ first");
        Subject x = Subject.ofNodes(5);
        for (int link = 0; link < 12; link++) {
            int step = 3 - link % 4;
            x.addLink(step, step + 1, 99).is(link);
        }
        for (int place = 0; place < 4; place++) {
            x.routeLink(0, 4, place).is(3 - place);
            x.setMetric(3 - place, 98);
            x.setMetric(7 - place, 98);
            x.routeLink(0, 4, place).is(3 - place);
            x.setMetric(3 - place, 99);
            x.routeLink(0, 4, place).is(7 - place);
            x.setMetric(7 - place, 99);
            x.setMetric(11 - place, 98);
            x.routeLink(0, 4, place).is(11 - place);
            x.setMetric(11 - place, 99);
            x.routeLink(0, 4, place).is(3 - place);
            x.routeLength(0, 4).is(4);
        }
    }

    private static void pairsWithoutAPath() {
        Sentences.names(0, "A pair has no route if no path leads from s to t.");
        Subject none = Subject.ofNodes(2);
        none.routeLength(0, 1).is(TrafficMatrix.NO_ROUTE);
        none.routeLength(1, 0).is(TrafficMatrix.NO_ROUTE);
        Subject line = Subject.line(5);
        for (int s = 0; s < 5; s++) {
            for (int t = 0; t < 5; t++) {
                if (s != t) {
                    line.routeLength(s, t).is(s < t ? t - s : TrafficMatrix.NO_ROUTE);
                }
            }
        }
        Subject meeting = Subject.ofNodes(3);
        meeting.addLink(0, 1, 1);
        meeting.addLink(2, 1, 1);
        meeting.routeLength(0, 2).is(TrafficMatrix.NO_ROUTE);
        meeting.routeLength(2, 0).is(TrafficMatrix.NO_ROUTE);
        Subject islands = Subject.islands(1, 1);
        islands.routeLength(0, 3).is(TrafficMatrix.NO_ROUTE);
        islands.routeLength(2, 1).is(TrafficMatrix.NO_ROUTE);
        // a ring beside the target, in which a search could go round for ever
        Subject beside = Subject.ofNodes(5);
        for (int s = 0; s < 4; s++) {
            beside.addLink(s, (s + 1) % 4, 1);
        }
        beside.addLink(4, 0, 1);
        for (int s = 0; s < 4; s++) {
            beside.routeLength(s, 4).is(TrafficMatrix.NO_ROUTE);
        }
        beside.routeLength(4, 3).is(4);
    }

    private static void routesFollowNewLinks() {
        Sentences.names(0, "Routes always follow the present links and metrics.");
        Subject x = Subject.line(5);
        x.setDemand(0, 4, 8);
        x.routeLength(0, 4).is(4);
        x.pairsOnLink(3).is(4);
        x.addLink(0, 4, 5).is(4);
        x.routeLength(0, 4).is(4);
        x.addLink(0, 4, 4).is(5);
        x.routeLength(0, 4).is(1);
        x.routeLink(0, 4, 0).is(5);
        x.pairsOnLink(3).is(3);
        x.carriedLoad(3).is(0);
        x.carriedLoad(5).is(8);
        x.addLink(0, 4, 3).is(6);
        x.routeLink(0, 4, 0).is(6);
        x.addLink(4, 0, 1).is(7);
        x.routeLength(4, 3).is(4);
    }

    private static void routesFollowNewMetrics() {
        Sentences.names(0, "Routes always follow the present links and metrics.");
        Subject x = Subject.line(3);
        x.addLink(0, 2, 3);
        x.setDemand(0, 2, 8);
        x.routeLength(0, 2).is(2);
        x.setMetric(2, 2);
        x.routeLength(0, 2).is(1);
        x.carriedLoad(2).is(8);
        x.carriedLoad(0).is(0);
        x.setMetric(2, 99);
        x.routeLength(0, 2).is(2);
        x.carriedLoad(2).is(0);
        x.carriedLoad(1).is(8);
        x.setMetric(0, 99);
        x.routeLength(0, 2).is(1);
        x.setMetric(0, 98);
        x.routeLength(0, 2).is(1);
        x.setMetric(0, 97);
        x.routeLength(0, 2).is(2);
        x.setMetric(2, 100).is(TrafficMatrix.BAD_VALUE);
        x.routeLength(0, 2).is(2);
    }

    // ---- promises 1 and 2

    private static void promise1() {
        Sentences.names(1, "A network of 3 nodes without links.");
        Subject x = new Subject();
        for (int node = 0; node < 3; node++) {
            x.outTotal(node).is(0);
            x.inTotal(node).is(0);
        }
        x.outTotal(3).is(TrafficMatrix.NO_SUCH_NODE);
        x.inTotal(-1).is(TrafficMatrix.NO_SUCH_NODE);
        x.measuredLoad(0).is(TrafficMatrix.NO_SUCH_LINK);
        x.setMetric(0, 1).is(TrafficMatrix.NO_SUCH_LINK);
        x.routeLength(0, 2).is(TrafficMatrix.NO_ROUTE);
        x.forgetPair(2, 0).is(TrafficMatrix.NONE);
        x.setDemand(2, 1, 0).is(0);
        x.addLink(2, 0, 1).is(0);
        new Subject().reset(3).is(0);
        Sentences.sameState(new Subject(), Subject.ofNodes(3));
    }

    private static void promise2StartsAnew() {
        Sentences.names(2, "Starts anew with a network without links: all demands, measured loads and totals, "
                + "and estimates are 0, and no pair is measured.");
        for (int nodes = 2; nodes <= 5; nodes++) {
            Subject x = StartingPoint.FULL.make();
            x.reset(nodes).is(12);
            Sentences.sameState(x, Subject.ofNodes(nodes));
        }
    }

    /** What a small network hides must not come back in a large one, nor old loads in new links. */
    private static void promise2FromManyNodesToFewAndBack() {
        Sentences.names(2, "all demands, measured loads and totals, and estimates are 0, and no pair is measured");
        Subject x = StartingPoint.FULL.make();
        x.reset(2).is(12);
        x.reset(5).is(0);
        for (int link = 0; link < 12; link++) {
            x.addLink(link % 5, (link + 1) % 5, 1).is(link);
            x.measuredLoad(link).is(0);
            x.carriedLoad(link).is(0);
            x.residual(link).is(0);
        }
        for (int s = 0; s < 5; s++) {
            x.outTotal(s).is(0);
            x.inTotal(s).is(0);
            for (int t = 0; t < 5; t++) {
                if (s != t) {
                    x.estimate(s, t).is(0);
                    x.forgetPair(s, t).is(TrafficMatrix.NONE);
                    x.setDemand(s, t, 0).is(0);
                }
            }
        }
        x.measure().is(0);
        x.totalError().is(0);
        x.rank().is(5);
    }

    private static void promise2Nodes() {
        Sentences.names(2, "`nodes`: the number of nodes, 2 to 5");
        for (int nodes = 2; nodes <= 5; nodes++) {
            Subject x = new Subject();
            x.reset(nodes).is(0);
            x.outTotal(nodes - 1).is(0);
            x.outTotal(nodes).is(TrafficMatrix.NO_SUCH_NODE);
        }
        Subject x = new Subject();
        for (int nodes : Edges.outside(2, 5)) {
            x.reset(nodes).is(TrafficMatrix.BAD_VALUE);
        }
        x.outTotal(2).is(0);
        x.outTotal(3).is(TrafficMatrix.NO_SUCH_NODE);
    }

    private static void promise2Returns() {
        Sentences.names(2, "Returns the number of links removed");
        for (int links = 0; links <= 12; links++) {
            Subject x = Subject.ofNodes(3);
            for (int link = 0; link < links; link++) {
                x.addLink(0, 1, 1);
            }
            x.reset(1).is(TrafficMatrix.BAD_VALUE);
            x.reset(6).is(TrafficMatrix.BAD_VALUE);
            x.reset(3).is(links);
            x.reset(3).is(0);
        }
    }

    // ---- promises 3 to 6

    private static void promise3Adds() {
        Sentences.names(3, "Adds a link.");
        Subject x = Subject.ofNodes(2);
        x.routeLength(0, 1).is(TrafficMatrix.NO_ROUTE);
        x.addLink(0, 1, 5).is(0);
        x.routeLength(0, 1).is(1);
        // a refused link takes no number
        x.addLink(0, 1, 100).is(TrafficMatrix.BAD_VALUE);
        x.addLink(0, 0, 5).is(TrafficMatrix.SAME_NODE);
        x.addLink(0, 2, 5).is(TrafficMatrix.NO_SUCH_NODE);
        x.addLink(1, 0, 5).is(1);
        for (int link = 2; link < 12; link++) {
            x.addLink(0, 1, 6).is(link);
        }
        x.addLink(0, 1, 1).is(TrafficMatrix.FULL);
        x.routeLink(0, 1, 0).is(0);
        x.reset(2).is(12);
        x.addLink(0, 1, 1).is(0);
    }

    private static void promise3NoLoad() {
        Sentences.names(3, "Its measured load is 0.");
        Subject x = Subject.ofNodes(2);
        x.setDemand(0, 1, 9999);
        for (int link = 0; link < 12; link++) {
            x.addLink(0, 1, 99 - link).is(link);
            x.carriedLoad(link).is(9999);
            x.measuredLoad(link).is(0);
            x.measure().is(9999);
            x.measuredLoad(link).is(9999);
            x.setMeasuredLoad(link, 199980).is(9999);
        }
        x.reset(2).is(12);
        for (int link = 0; link < 12; link++) {
            x.addLink(0, 1, 1).is(link);
            x.measuredLoad(link).is(0);
        }
    }

    private static void promise3Source() {
        Sentences.names(3, "`source`: the node from which it leads");
        Subject x = Subject.ofNodes(5);
        x.addLink(4, 0, 1).is(0);
        x.routeLength(4, 0).is(1);
        for (int node : Edges.outside(0, 4)) {
            x.addLink(node, 0, 1).is(TrafficMatrix.NO_SUCH_NODE);
        }
        x.addLink(0, 4, 1).is(1);
    }

    private static void promise3Target() {
        Sentences.names(3, "`target`: the node to which it leads");
        Subject x = Subject.ofNodes(5);
        x.addLink(0, 4, 1).is(0);
        x.routeLength(0, 4).is(1);
        for (int node : Edges.outside(0, 4)) {
            x.addLink(0, node, 1).is(TrafficMatrix.NO_SUCH_NODE);
        }
        x.addLink(4, 0, 1).is(1);
    }

    private static void promise3Metric() {
        Sentences.names(3, "`metric`: 1 to 99");
        Subject x = Subject.ofNodes(2);
        for (int metric : Edges.outside(1, 99)) {
            x.addLink(0, 1, metric).is(TrafficMatrix.BAD_VALUE);
        }
        x.addLink(0, 1, 99).is(0);
        x.addLink(0, 1, 1).is(1);
        x.routeLink(0, 1, 0).is(1);
        x.setMetric(0, 5).is(99);
        x.setMetric(1, 5).is(1);
    }

    private static void promise4Sets() {
        Sentences.names(4, "Sets the metric of a link.");
        Subject x = Subject.ofNodes(2);
        x.addLink(0, 1, 10);
        x.addLink(0, 1, 20);
        x.setMetric(1, 10).is(20);
        x.routeLink(0, 1, 0).is(0);
        x.setMetric(1, 9).is(10);
        x.routeLink(0, 1, 0).is(1);
        // its own metric once more
        x.setMetric(1, 9).is(9);
        x.routeLink(0, 1, 0).is(1);
        x.setMetric(0, 9).is(10);
        x.routeLink(0, 1, 0).is(0);
    }

    private static void promise4Link() {
        Sentences.names(4, "`link`: the number of a link");
        Subject x = Subject.ofNodes(2);
        x.setMetric(0, 1).is(TrafficMatrix.NO_SUCH_LINK);
        for (int link = 0; link < 12; link++) {
            x.addLink(0, 1, 30 + link);
            x.setMetric(link, 60 + link).is(30 + link);
            x.setMetric(link + 1, 1).is(TrafficMatrix.NO_SUCH_LINK);
        }
        for (int link : Edges.outside(0, 11)) {
            x.setMetric(link, 1).is(TrafficMatrix.NO_SUCH_LINK);
        }
    }

    private static void promise4Metric() {
        Sentences.names(4, "`metric`: 1 to 99");
        Subject x = Subject.ofNodes(2);
        x.addLink(0, 1, 50);
        for (int metric : Edges.outside(1, 99)) {
            x.setMetric(0, metric).is(TrafficMatrix.BAD_VALUE);
        }
        x.setMetric(0, 1).is(50);
        x.setMetric(0, 99).is(1);
        x.setMetric(0, 50).is(99);
    }

    private static void promise5Returns() {
        Sentences.names(5, "Returns the number of links of its route");
        for (int nodes = 2; nodes <= 5; nodes++) {
            Subject x = Subject.ring(nodes);
            for (int s = 0; s < nodes; s++) {
                for (int hops = 1; hops < nodes; hops++) {
                    x.routeLength(s, (s + hops) % nodes).is(hops);
                }
            }
        }
    }

    private static void promise6Place() {
        Sentences.names(6, "`k`: the place of a link on its route, from 0");
        Subject x = Subject.line(5);
        for (int t = 1; t < 5; t++) {
            for (int k = 0; k < t; k++) {
                x.routeLink(0, t, k).is(k);
            }
            for (int k : Edges.outside(0, t - 1)) {
                x.routeLink(0, t, k).is(TrafficMatrix.BAD_VALUE);
            }
        }
    }
}
