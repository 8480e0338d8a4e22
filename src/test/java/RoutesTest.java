/** Promises 7 and 14: routes are exchanged, ways and their circles. */
public final class RoutesTest {
    private static final Class<?> ARGUMENT = IllegalArgumentException.class;
    private static final Class<?> INDEX = IndexOutOfBoundsException.class;
    private static final Check check = new Check();

    public static void main(String[] args) {
        linesGrowByOneNodeAnExchange();
        smallestOfEqualNeighboursIsTaken();
        oneWayHearingIsNoLink();
        wayIsCutBehindTheNext();
        circleIsFound();
        costEndsAtEight();
        refuses();
        check.end();
    }

    /** Nodes 0, 1 and 3 are linked with each other; 2 was with 1, has gone, and 0 and 3 go over each other to it. */
    static Sharedair circle() {
        Sharedair air = withLostNode();
        air.exchange(2);
        return air;
    }

    private static Sharedair withLostNode() {
        Sharedair air = new Sharedair();
        air.node(10, 10, 3, false);
        air.node(10, 12, 3, false);
        air.node(10, 15, 3, false);
        air.node(12, 10, 3, false);
        air.exchange(2);
        air.move(2, 29, 29);
        return air;
    }

    private static void way(Sharedair air, int node, int other, int... due) {
        for (int what = 0; what <= 3; what++) {
            check.same("route(" + node + ", " + other + ", " + what + ")", air.route(node, other, what), due[what]);
        }
    }

    private static void linesGrowByOneNodeAnExchange() {
        Sharedair air = new Sharedair();
        for (int i = 0; i < 8; i++) {
            air.node(4 * i, 0, 4, false);
        }
        way(air, 0, 1, -1, -1, -1, 0);
        check.same("exchange(1)", air.exchange(1), 14);
        way(air, 0, 1, 1, 1, 2, 0);
        way(air, 0, 2, -1, -1, -1, 0);
        check.same("exchange(1)", air.exchange(1), 26);
        way(air, 0, 2, 2, 1, 3, 0);
        way(air, 7, 5, 2, 6, 3, 0);
        check.same("exchange(10)", air.exchange(10), 56);
        way(air, 0, 7, 7, 1, 8, 0);
        way(air, 7, 0, 7, 6, 8, 0);
        check.same("air(8)", air.air(8), 12);
        check.same("air(12)", air.air(12), 0);
    }

    private static void smallestOfEqualNeighboursIsTaken() {
        Sharedair air = new Sharedair();
        air.node(0, 0, 5, false);
        air.node(6, 0, 5, false);
        air.node(3, 4, 5, false);
        air.node(3, 3, 5, false);
        air.exchange(2);
        way(air, 0, 1, 2, 2, 3, 0);
        way(air, 1, 0, 2, 2, 3, 0);
    }

    private static void oneWayHearingIsNoLink() {
        Sharedair air = new Sharedair();
        air.node(0, 0, 9, false);
        air.node(6, 0, 5, false);
        check.same("exchange(3)", air.exchange(3), 0);
        way(air, 0, 1, -1, -1, -1, 0);
        way(air, 1, 0, -1, -1, -1, 0);
    }

    private static void wayIsCutBehindTheNext() {
        Sharedair air = withLostNode();
        check.same("exchange(1)", air.exchange(1), 8);
        way(air, 1, 2, -1, -1, -1, 0);
        way(air, 0, 2, 2, 1, -1, 0);
        way(air, 3, 2, 2, 1, -1, 0);
    }

    private static void circleIsFound() {
        Sharedair air = circle();
        way(air, 0, 2, 3, 3, -1, 1);
        way(air, 3, 2, 3, 0, -1, 1);
        way(air, 1, 2, -1, -1, -1, 0);
        way(air, 0, 3, 1, 3, 2, 0);
        check.same("air(12)", air.air(12), 2);
    }

    private static void costEndsAtEight() {
        Sharedair air = withLostNode();
        air.exchange(7);
        way(air, 3, 2, 8, 1, -1, 0);
        check.same("exchange(1)", air.exchange(1), 6);
        way(air, 0, 2, -1, -1, -1, 0);
        way(air, 3, 2, -1, -1, -1, 0);
    }

    private static void refuses() {
        Sharedair air = circle();
        check.refused("exchange", ARGUMENT, air, () -> air.exchange(0));
        check.refused("exchange", ARGUMENT, air, () -> air.exchange(11));
        check.refused("exchange", ARGUMENT, air, () -> air.exchange(-1));
        check.refused("route", INDEX, air, () -> air.route(4, 4, 0));
        check.refused("route", INDEX, air, () -> air.route(0, 4, 9));
        check.refused("route", INDEX, air, () -> air.route(-1, 0, 0));
        check.refused("route", ARGUMENT, air, () -> air.route(1, 1, 0));
        check.refused("route", ARGUMENT, air, () -> air.route(0, 1, 4));
        check.refused("route", ARGUMENT, air, () -> air.route(0, 1, -1));
    }
}
