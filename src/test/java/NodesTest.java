/** Promises 1 to 4, 11 and 12: nodes are set up, move and are tuned; who hears whom. */
public final class NodesTest {
    private static final Class<?> ARGUMENT = IllegalArgumentException.class;
    private static final Class<?> STATE = IllegalStateException.class;
    private static final Class<?> INDEX = IndexOutOfBoundsException.class;
    private static final Check check = new Check();

    public static void main(String[] args) {
        newObjectIsEmpty();
        nodesAreNumberedAndKeepWhatTheyGot();
        nodeRefuses();
        ninthNodeIsRefused();
        hearingIsByTheReachOfTheOther();
        moveCountsLinks();
        moveAndTuneRefuse();
        tuneAnswersTheReachBefore();
        ofNodeRefuses();
        check.end();
    }

    private static void newObjectIsEmpty() {
        Sharedair air = new Sharedair();
        int[] due = {0, 0, 41, 0, 0, 0, 0, 0, 0, 0, 0, 0, 0};
        for (int what = 0; what <= 12; what++) {
            check.same("air(" + what + ") of a new object", air.air(what), due[what]);
        }
        check.same("row() of a new object", air.row(), "");
        check.same("fairness() of a new object", air.fairness(), 1.0);
        check.same("cover() of a new object", air.cover(), 0);
        check.same("isSound() of a new object", air.isSound(), true);
        check.same("exchange(1) without nodes", air.exchange(1), 0);
        check.same("pass(3) without nodes", air.pass(3), 3);
    }

    private static void nodesAreNumberedAndKeepWhatTheyGot() {
        Sharedair air = new Sharedair();
        check.same("first node", air.node(0, 29, 42, true), 0);
        check.same("second node", air.node(29, 0, 1, false), 1);
        int[] first = {0, 29, 42, 1, 0, 0, 0, 0, -1, 0, 0, 0, 0, 0, 0, 0};
        int[] second = {29, 0, 1, 0, 0, 0, 0, 0, -1, 0, 0, 0, 0, 0, 0, 0};
        for (int what = 0; what <= 15; what++) {
            check.same("ofNode(0, " + what + ")", air.ofNode(0, what), first[what]);
            check.same("ofNode(1, " + what + ")", air.ofNode(1, what), second[what]);
        }
        check.same("air(1)", air.air(1), 2);
        check.same("row()", air.row(), "..");
    }

    private static void nodeRefuses() {
        Sharedair air = new Sharedair();
        int[][] wrong = {{-1, 0, 1}, {30, 0, 1}, {0, -1, 1}, {0, 30, 1}, {0, 0, 0}, {0, 0, 43},
            {Integer.MIN_VALUE, 0, 1}, {0, Integer.MAX_VALUE, 1}, {0, 0, Integer.MIN_VALUE}};
        for (int[] w : wrong) {
            check.refused("node", ARGUMENT, air, () -> air.node(w[0], w[1], w[2], false));
        }
        check.same("air(1)", air.air(1), 0);
    }

    private static void ninthNodeIsRefused() {
        Sharedair air = new Sharedair();
        for (int i = 0; i < 8; i++) {
            check.same("node", air.node(i, i, 1, false), i);
        }
        check.refused("ninth node", STATE, air, () -> air.node(0, 0, 1, false));
        check.refused("ninth node in a wrong place", ARGUMENT, air, () -> air.node(30, 0, 1, false));
        check.same("air(1)", air.air(1), 8);
        check.same("ofNode(7, 0)", air.ofNode(7, 0), 7);
    }

    private static void hearingIsByTheReachOfTheOther() {
        Sharedair air = new Sharedair();
        air.node(0, 0, 5, false);
        air.node(3, 4, 4, false);
        check.same("hears at just its reach", air.hears(1, 0), true);
        check.same("hears beyond its reach", air.hears(0, 1), false);
        check.same("linked one way only", air.ofNode(0, 14), 0);
        air.tune(1, 5, false);
        check.same("hears once tuned", air.hears(0, 1), true);
        check.same("linked with 1", air.ofNode(0, 14), 2);
        check.same("linked with 0", air.ofNode(1, 14), 1);
        check.refused("hears itself", ARGUMENT, air, () -> air.hears(1, 1));
        check.refused("hears of no node", INDEX, air, () -> air.hears(-1, -1));
        check.refused("hears of no node", INDEX, air, () -> air.hears(0, 2));
        check.refused("hears of no node", INDEX, air, () -> air.hears(2, 0));
        check.refused("hears of no node", INDEX, air, () -> air.hears(0, Integer.MAX_VALUE));
    }

    private static void moveCountsLinks() {
        Sharedair air = new Sharedair();
        air.node(0, 0, 5, false);
        air.node(5, 0, 5, false);
        air.node(10, 0, 5, false);
        check.same("ofNode(1, 14)", air.ofNode(1, 14), 5);
        check.same("move to the same place", air.move(0, 10, 0), 2);
        check.same("ofNode(0, 0)", air.ofNode(0, 0), 10);
        check.same("move away", air.move(2, 0, 29), 0);
        check.same("ofNode(2, 1)", air.ofNode(2, 1), 29);
        check.same("ofNode(1, 14) then", air.ofNode(1, 14), 1);
    }

    private static void moveAndTuneRefuse() {
        Sharedair air = new Sharedair();
        air.node(0, 0, 5, false);
        air.node(4, 0, 5, false);
        air.exchange(1);
        air.send(0, 1, 2);
        air.pass(1);
        check.refused("move of a sender", STATE, air, () -> air.move(0, 1, 1));
        check.refused("move of a sender to a wrong place", ARGUMENT, air, () -> air.move(0, 1, 30));
        check.refused("move of no node", INDEX, air, () -> air.move(2, 30, 0));
        check.refused("move of no node", INDEX, air, () -> air.move(-1, 0, 0));
        check.refused("move to a wrong place", ARGUMENT, air, () -> air.move(1, -1, 0));
        check.refused("move to a wrong place", ARGUMENT, air, () -> air.move(1, 0, -1));
        check.refused("tune of a sender", STATE, air, () -> air.tune(0, 1, true));
        check.refused("tune of a sender to a wrong reach", ARGUMENT, air, () -> air.tune(0, 0, true));
        check.refused("tune of no node", INDEX, air, () -> air.tune(2, 0, true));
        check.refused("tune of no node", INDEX, air, () -> air.tune(Integer.MIN_VALUE, 1, true));
        check.refused("tune to a wrong reach", ARGUMENT, air, () -> air.tune(1, 43, true));
        air.pass(1);
        check.same("move once it has sent", air.move(0, 1, 1), 1);
        check.same("tune once it has sent", air.tune(0, 6, false), 5);
    }

    private static void tuneAnswersTheReachBefore() {
        Sharedair air = new Sharedair();
        air.node(0, 0, 5, false);
        check.same("tune", air.tune(0, 1, true), 5);
        check.same("ofNode(0, 2)", air.ofNode(0, 2), 1);
        check.same("ofNode(0, 3)", air.ofNode(0, 3), 1);
        check.same("tune again", air.tune(0, 42, false), 1);
        check.same("ofNode(0, 2) again", air.ofNode(0, 2), 42);
        check.same("ofNode(0, 3) again", air.ofNode(0, 3), 0);
    }

    private static void ofNodeRefuses() {
        Sharedair air = new Sharedair();
        air.node(0, 0, 5, false);
        check.refused("ofNode", INDEX, air, () -> air.ofNode(1, 16));
        check.refused("ofNode", INDEX, air, () -> air.ofNode(-1, 0));
        check.refused("ofNode", ARGUMENT, air, () -> air.ofNode(0, 16));
        check.refused("ofNode", ARGUMENT, air, () -> air.ofNode(0, -1));
    }
}
