/** The edges in the document's part 3 and of promises 7 and 14: COST 1 to 8 or neither, EXCHANGES, WAYS and CIRCLES. */
public final class EdgesRoutesTest {
    private static final Class<?> ARGUMENT = IllegalArgumentException.class;
    private static final Check check = new Check();

    public static void main(String[] args) {
        neitherAtFirst();
        neitherForOneThatComesLater();
        exchangesAreOneToTen();
        exchangeOfAnEmptyCountry();
        linkedCostsOne();
        leastCostIsTaken();
        smallestOfEqualIsTaken();
        allAtOnce();
        notOverOneWhoseRouteGoesBack();
        routeAsItWasAhead();
        costOfEightAndNotAbove();
        waysOfTwoAndOfEight();
        noWayAtFirstAndFurtherOn();
        circleFromItsNode();
        circleAroundTheFirstNode();
        circleBehindOthers();
        check.end();
    }

    private static void way(Sharedair air, int node, int other, int... due) {
        for (int what = 0; what <= 3; what++) {
            check.same("route(" + node + ", " + other + ", " + what + ")", air.route(node, other, what), due[what]);
        }
    }

    private static Sharedair places(int reach, int... places) {
        Sharedair air = new Sharedair();
        for (int i = 0; i + 1 < places.length; i += 2) {
            air.node(places[i], places[i + 1], reach, false);
        }
        return air;
    }

    /** Nodes 0, 1, 3 and 4; 2 was with 1 alone, 4 is with 0 alone, and 2 has gone since all had ROUTES to it. */
    private static Sharedair withLostNode() {
        Sharedair air = places(3, 10, 10, 10, 12, 10, 15, 12, 10, 10, 7);
        air.exchange(3);
        air.move(2, 29, 29);
        return air;
    }

    private static void neitherAtFirst() {
        Sharedair air = places(5, 0, 0, 3, 4);
        way(air, 0, 1, -1, -1, -1, 0);
        way(air, 1, 0, -1, -1, -1, 0);
    }

    private static void neitherForOneThatComesLater() {
        Sharedair air = places(5, 0, 0, 3, 4);
        air.exchange(10);
        air.node(1, 1, 5, false);
        way(air, 0, 2, -1, -1, -1, 0);
        way(air, 2, 0, -1, -1, -1, 0);
        check.same("exchange(1)", air.exchange(1), 6);
        way(air, 2, 0, 1, 0, 2, 0);
    }

    private static void exchangesAreOneToTen() {
        Sharedair air = places(5, 0, 0, 3, 4);
        check.refused("exchange(0)", ARGUMENT, air, () -> air.exchange(0));
        check.refused("exchange(11)", ARGUMENT, air, () -> air.exchange(11));
        check.same("EXCHANGES", air.air(8), 0);
        check.same("exchange(1)", air.exchange(1), 2);
        check.same("EXCHANGES", air.air(8), 1);
        check.same("exchange(10)", air.exchange(10), 2);
        check.same("EXCHANGES", air.air(8), 11);
    }

    private static void exchangeOfAnEmptyCountry() {
        Sharedair air = new Sharedair();
        check.same("exchange(10) without NODES", air.exchange(10), 0);
        check.same("EXCHANGES", air.air(8), 10);
        air.node(0, 0, 1, false);
        check.same("exchange(1) of one NODE", air.exchange(1), 0);
        check.same("pairs in a CIRCLE", air.air(12), 0);
    }

    private static void linkedCostsOne() {
        Sharedair air = places(1, 0, 0, 0, 0, 0, 0, 0, 0, 1, 0, 0, 1, 0, 0, 0, 0);
        check.same("exchange(1) of 8, two of them not LINKED", air.exchange(1), 54);
        way(air, 0, 4, 1, 4, 2, 0);
        way(air, 4, 5, -1, -1, -1, 0);
        check.same("exchange(1) of 8", air.exchange(1), 56);
        way(air, 4, 5, 2, 0, 3, 0);
        way(air, 7, 0, 1, 0, 2, 0);
    }

    /** From 0 to 3 there is a ROUTE over 1, which has COST 2, and over 2, which has COST 1. */
    private static void leastCostIsTaken() {
        Sharedair air = places(5, 10, 10, 10, 14, 14, 11, 18, 14, 14, 16);
        air.exchange(4);
        check.same("COST of 1", air.route(1, 3, 0), 2);
        check.same("COST of 2", air.route(2, 3, 0), 1);
        way(air, 0, 3, 2, 2, 3, 0);
    }

    private static void smallestOfEqualIsTaken() {
        Sharedair air = places(5, 0, 0, 3, 4, 3, 3, 6, 0);
        air.exchange(2);
        way(air, 0, 3, 2, 1, 3, 0);
        way(air, 3, 0, 2, 1, 3, 0);
    }

    /** What one gets to know in an EXCHANGE it does not tell in the same one, in neither direction. */
    private static void allAtOnce() {
        Sharedair air = places(4, 0, 0, 4, 0, 8, 0, 12, 0);
        air.exchange(1);
        way(air, 0, 2, -1, -1, -1, 0);
        way(air, 2, 0, -1, -1, -1, 0);
        air.exchange(1);
        way(air, 0, 2, 2, 1, 3, 0);
        way(air, 0, 3, -1, -1, -1, 0);
        way(air, 3, 0, -1, -1, -1, 0);
        air.exchange(1);
        way(air, 0, 3, 3, 1, 4, 0);
        way(air, 3, 0, 3, 2, 4, 0);
    }

    private static void notOverOneWhoseRouteGoesBack() {
        Sharedair air = places(4, 0, 0, 4, 0, 8, 0);
        air.exchange(2);
        air.move(2, 29, 29);
        check.same("exchange(1)", air.exchange(1), 3);
        way(air, 1, 2, -1, -1, -1, 0);
        way(air, 0, 2, 2, 1, -1, 0);
    }

    /** At the second EXCHANGE behind the loss 0 and 3 take each other: each one's ROUTE was over 1 ahead. */
    private static void routeAsItWasAhead() {
        Sharedair air = withLostNode();
        air.exchange(1);
        way(air, 0, 2, 2, 1, -1, 0);
        way(air, 3, 2, 2, 1, -1, 0);
        air.exchange(1);
        way(air, 0, 2, 3, 3, -1, 1);
        way(air, 3, 2, 3, 0, -1, 1);
    }

    /** Around 0, 1 and 3 the COST for the lost node 2 grows by 1 at each EXCHANGE. */
    private static void costOfEightAndNotAbove() {
        Sharedair air = places(3, 10, 10, 10, 12, 10, 15, 12, 10);
        air.exchange(2);
        air.move(2, 29, 29);
        air.exchange(6);
        way(air, 1, 2, 7, 0, -1, 0);
        air.exchange(1);
        way(air, 3, 2, 8, 1, -1, 0);
        check.same("exchange(1)", air.exchange(1), 6);
        way(air, 0, 2, -1, -1, -1, 0);
    }

    private static void waysOfTwoAndOfEight() {
        Sharedair air = places(4, 0, 0, 4, 0, 8, 0, 12, 0, 16, 0, 20, 0, 24, 0, 28, 0);
        air.exchange(6);
        way(air, 0, 7, -1, -1, -1, 0);
        way(air, 0, 6, 6, 1, 7, 0);
        air.exchange(1);
        way(air, 0, 7, 7, 1, 8, 0);
        way(air, 7, 0, 7, 6, 8, 0);
        way(air, 3, 4, 1, 4, 2, 0);
        check.same("pairs in a CIRCLE", air.air(12), 0);
    }

    private static void noWayAtFirstAndFurtherOn() {
        Sharedair air = withLostNode();
        air.exchange(1);
        way(air, 1, 2, -1, -1, -1, 0);
        way(air, 0, 2, 2, 1, -1, 0);
        way(air, 4, 2, 3, 0, -1, 0);
        check.same("pairs in a CIRCLE", air.air(12), 0);
    }

    private static void circleFromItsNode() {
        Sharedair air = RoutesTest.circle();
        way(air, 0, 2, 3, 3, -1, 1);
        way(air, 3, 2, 3, 0, -1, 1);
        way(air, 0, 3, 1, 3, 2, 0);
        check.same("pairs in a CIRCLE", air.air(12), 2);
    }

    private static void circleAroundTheFirstNode() {
        Sharedair air = places(3, 10, 15, 10, 12, 10, 10, 12, 10);
        air.exchange(2);
        air.move(0, 29, 29);
        air.exchange(2);
        way(air, 2, 0, 3, 3, -1, 1);
        way(air, 3, 0, 3, 2, -1, 1);
        check.same("pairs in a CIRCLE", air.air(12), 2);
    }

    /** The WAY of 4 comes to 0 twice, not to 4 itself. */
    private static void circleBehindOthers() {
        Sharedair air = withLostNode();
        air.exchange(2);
        way(air, 4, 2, 3, 0, -1, 1);
        check.same("pairs in a CIRCLE", air.air(12), 3);
    }
}
