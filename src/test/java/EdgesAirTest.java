/** The edges in the document's part 1 (the air) and of promises 2, 3, 4 and 11: the last that is allowed, and the next. */
public final class EdgesAirTest {
    private static final Class<?> ARGUMENT = IllegalArgumentException.class;
    private static final Class<?> STATE = IllegalStateException.class;
    private static final int[][] CORNERS = {{0, 0}, {0, 29}, {29, 0}, {29, 29}};
    private static final int[][] OUTSIDE = {{-1, 0}, {30, 0}, {0, -1}, {0, 30}, {-1, 29}, {30, 29}, {29, -1}, {29, 30}};
    private static final Check check = new Check();

    public static void main(String[] args) {
        eightNodesNumberedFromZero();
        nodesStandAtZeroToTwentyNine();
        nodesMoveToZeroToTwentyNine();
        reachIsOneToFortyTwo();
        reachIsTunedOneToFortyTwo();
        heardUpToTheSquareOfTheReach();
        leastReach();
        greatestReach();
        reachOfTheOtherCounts();
        linkedIfBothHear();
        linkedWithFirstAndLast();
        slotIsZeroAtFirstAndTwoThousandAtMost();
        slotPassesOverTwoThousandNeverInPart();
        luckAtFirst();
        drawsAreZeroToOneLess();
        check.end();
    }

    private static Sharedair pair(int x, int y, int reach, int otherReach) {
        Sharedair air = new Sharedair();
        air.node(0, 0, reach, false);
        air.node(x, y, otherReach, false);
        return air;
    }

    private static void eightNodesNumberedFromZero() {
        Sharedair air = new Sharedair();
        for (int i = 0; i < 8; i++) {
            check.same("NODES", air.air(1), i);
            check.same("node()", air.node(i, 0, 1, false), i);
        }
        check.refused("the ninth node()", STATE, air, () -> air.node(8, 0, 1, false));
        check.same("NODES", air.air(1), 8);
    }

    private static void nodesStandAtZeroToTwentyNine() {
        Sharedair air = new Sharedair();
        for (int[] place : OUTSIDE) {
            check.refused("node() outside", ARGUMENT, air, () -> air.node(place[0], place[1], 1, false));
        }
        for (int i = 0; i < CORNERS.length; i++) {
            check.same("node() in a corner", air.node(CORNERS[i][0], CORNERS[i][1], 1, false), i);
            check.same("x", air.ofNode(i, 0), CORNERS[i][0]);
            check.same("y", air.ofNode(i, 1), CORNERS[i][1]);
        }
    }

    private static void nodesMoveToZeroToTwentyNine() {
        Sharedair air = new Sharedair();
        air.node(7, 8, 1, false);
        for (int[] place : OUTSIDE) {
            check.refused("move() outside", ARGUMENT, air, () -> air.move(0, place[0], place[1]));
        }
        for (int[] place : CORNERS) {
            check.same("move() to a corner", air.move(0, place[0], place[1]), 0);
            check.same("x", air.ofNode(0, 0), place[0]);
            check.same("y", air.ofNode(0, 1), place[1]);
        }
    }

    private static void reachIsOneToFortyTwo() {
        Sharedair air = new Sharedair();
        check.refused("node() of REACH 0", ARGUMENT, air, () -> air.node(0, 0, 0, false));
        check.refused("node() of REACH 43", ARGUMENT, air, () -> air.node(0, 0, 43, false));
        check.same("node() of REACH 1", air.node(0, 0, 1, false), 0);
        check.same("node() of REACH 42", air.node(0, 0, 42, false), 1);
        check.same("REACH 1", air.ofNode(0, 2), 1);
        check.same("REACH 42", air.ofNode(1, 2), 42);
    }

    private static void reachIsTunedOneToFortyTwo() {
        Sharedair air = new Sharedair();
        air.node(0, 0, 20, false);
        check.refused("tune() to REACH 0", ARGUMENT, air, () -> air.tune(0, 0, true));
        check.refused("tune() to REACH 43", ARGUMENT, air, () -> air.tune(0, 43, true));
        check.same("tune() to REACH 1", air.tune(0, 1, false), 20);
        check.same("tune() to REACH 42", air.tune(0, 42, false), 1);
        check.same("REACH 42", air.ofNode(0, 2), 42);
    }

    private static void heardUpToTheSquareOfTheReach() {
        check.same("FAR 25 of REACH 5", pair(3, 4, 1, 5).hears(0, 1), true);
        check.same("FAR 25 of REACH 5, by x alone", pair(5, 0, 1, 5).hears(0, 1), true);
        check.same("FAR 26 of REACH 5", pair(5, 1, 1, 5).hears(0, 1), false);
        check.same("FAR 26 of REACH 5, the other way", pair(1, 5, 1, 5).hears(0, 1), false);
        check.same("FAR 0 of REACH 1", pair(0, 0, 1, 1).hears(0, 1), true);
    }

    private static void leastReach() {
        check.same("FAR 1 of REACH 1", pair(0, 1, 42, 1).hears(0, 1), true);
        check.same("FAR 2 of REACH 1", pair(1, 1, 42, 1).hears(0, 1), false);
    }

    private static void greatestReach() {
        check.same("FAR 1682 of REACH 42", pair(29, 29, 1, 42).hears(0, 1), true);
        check.same("FAR 1682 of REACH 41", pair(29, 29, 1, 41).hears(0, 1), false);
        check.same("FAR 1625 of REACH 41", pair(28, 29, 1, 41).hears(0, 1), true);
    }

    private static void reachOfTheOtherCounts() {
        Sharedair air = pair(4, 0, 4, 3);
        check.same("1 hears 0 by the REACH of 0", air.hears(1, 0), true);
        check.same("0 hears 1 by the REACH of 1", air.hears(0, 1), false);
    }

    private static void linkedIfBothHear() {
        Sharedair air = pair(4, 0, 4, 3);
        check.same("LINKED as one hears", air.ofNode(0, 14), 0);
        check.same("LINKED as one hears", air.ofNode(1, 14), 0);
        check.same("move() to the same place", air.move(1, 4, 0), 0);
        air.tune(1, 4, false);
        check.same("LINKED as both hear", air.ofNode(0, 14), 2);
        check.same("LINKED as both hear", air.ofNode(1, 14), 1);
        check.same("move() to the same place", air.move(1, 4, 0), 1);
        check.same("move() by one too far", air.move(1, 5, 0), 0);
    }

    private static void linkedWithFirstAndLast() {
        Sharedair air = new Sharedair();
        for (int i = 0; i < 8; i++) {
            air.node(0, 0, 1, false);
        }
        check.same("LINKED with 0", air.ofNode(0, 14), 254);
        check.same("LINKED with 7", air.ofNode(7, 14), 127);
        check.same("move() among 8", air.move(7, 1, 0), 7);
        check.same("move() out of 8", air.move(7, 1, 1), 0);
        check.same("LINKED with 0, without 7", air.ofNode(0, 14), 126);
    }

    private static void slotIsZeroAtFirstAndTwoThousandAtMost() {
        Sharedair air = pair(1, 0, 1, 1);
        check.same("SLOT", air.air(0), 0);
        for (int i = 1; i <= 10; i++) {
            check.same("pass(200)", air.pass(200), 200 * i);
        }
        check.refused("pass(1) at 2000", STATE, air, () -> air.pass(1));
        check.same("SLOT", air.air(0), 2000);
        check.same("send() at 2000", air.send(0, 1, 1), 0);
        check.same("exchange() at 2000", air.exchange(1), 2);
    }

    private static void slotPassesOverTwoThousandNeverInPart() {
        Sharedair air = new Sharedair();
        for (int i = 1; i <= 9; i++) {
            air.pass(200);
        }
        check.same("pass(1)", air.pass(1), 1801);
        check.refused("pass(200) to 2001", STATE, air, () -> air.pass(200));
        check.same("SLOT", air.air(0), 1801);
        check.same("pass(199) to 2000", air.pass(199), 2000);
    }

    private static void luckAtFirst() {
        Sharedair air = pair(4, 0, 5, 1);
        check.same("LUCK", air.air(2), 41);
        air.node(0, 4, 5, false);
        air.exchange(1);
        air.send(0, 2, 3);
        air.pass(3);
        check.same("LUCK, nothing drawn", air.air(2), 41);
        air.tune(2, 1, false);
        air.send(0, 2, 1);
        air.pass(1);
        check.same("LUCK, one drawn", air.air(2), (109 * 41 + 57) % 512);
    }

    /**
     * One NODE repeats 28 FRAMES in vain. Of every 2^(TRIES + 1) each WAIT is due: 0 by the least LUCK, and one less
     * than what is drawn of by the greatest.
     */
    private static void drawsAreZeroToOneLess() {
        Sharedair air = pair(4, 0, 5, 5);
        air.exchange(1);
        air.tune(1, 1, false);
        int luck = 41;
        int edges = 0;
        for (int frame = 0; frame < 28; frame++) {
            air.send(0, 1, 1);
            for (int tries = 1; tries <= 4; tries++) {
                int many = 1 << tries + 1;
                air.pass(1);
                luck = (109 * luck + 57) % 512;
                int due = luck == 511 ? many - 1 : luck * many / 512;
                check.same("WAIT " + tries + " of frame " + frame, air.ofNode(0, 5), due);
                edges += luck == 0 || luck == 511 ? 1 : 0;
                if (due > 0) {
                    air.pass(due);
                }
            }
            air.pass(1);
        }
        check.same("LUCK", air.air(2), luck);
        check.same("the least LUCK and the greatest", edges, 2);
        check.same("REPEATS, those of 0 too", air.ofNode(0, 12), 112);
    }
}
