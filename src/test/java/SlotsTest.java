/** Promises 5, 6, 13, 16 and 18: frames are sent, collide, are repeated and go over several hops. */
public final class SlotsTest {
    private static final Class<?> ARGUMENT = IllegalArgumentException.class;
    private static final Class<?> STATE = IllegalStateException.class;
    private static final Class<?> INDEX = IndexOutOfBoundsException.class;
    private static final Check check = new Check();

    public static void main(String[] args) {
        sendNumbersByFrom();
        queueKeepsItsOrder();
        sendRefuses();
        passRefuses();
        frameOfTwoSlots();
        withoutRouteDropped();
        busyNodesHoldBack();
        waitStandsStillWhileBusy();
        hiddenSenderSpoilsOneSlot();
        captureByTheNearer();
        unheardAnswerIsRepeatedTillDropped();
        cheatDoesNotWait();
        nodeThatComesLaterDisturbs();
        copyGoesOn();
        fullQueueDropsTheCopyOnly();
        hopsEndInACircle();
        inQueueRefuses();
        check.end();
    }

    private static Sharedair line(int nodes) {
        Sharedair air = new Sharedair();
        for (int i = 0; i < nodes; i++) {
            air.node(4 * i, 0, 5, false);
        }
        if (nodes > 1) {
            air.exchange(8);
        }
        return air;
    }

    private static void state(Sharedair air, int node, String what, int... due) {
        int[] asked = {4, 5, 6, 7, 8, 9, 10, 11, 12};
        for (int i = 0; i < due.length; i++) {
            check.same(what + ": ofNode(" + node + ", " + asked[i] + ")", air.ofNode(node, asked[i]), due[i]);
        }
    }

    private static void sendNumbersByFrom() {
        Sharedair air = line(3);
        check.same("send", air.send(0, 2, 3), 0);
        check.same("send", air.send(0, 1, 1), 1);
        check.same("send", air.send(2, 1, 2), 0);
        check.same("send", air.send(0, 1, 2), 2);
        int[] second = {0, 1, 1, 1, 0};
        for (int what = 0; what <= 4; what++) {
            check.same("inQueue(0, 1, " + what + ")", air.inQueue(0, 1, what), second[what]);
        }
        int[] first = {0, 2, 3, 0, 0};
        for (int what = 0; what <= 4; what++) {
            check.same("inQueue(0, 0, " + what + ")", air.inQueue(0, 0, what), first[what]);
        }
        check.same("ofNode(0, 15)", air.ofNode(0, 15), 3);
        check.same("ofNode(2, 15)", air.ofNode(2, 15), 1);
        check.same("air(7)", air.air(7), 4);
        check.same("row()", air.row(), "q.q");
    }

    private static void queueKeepsItsOrder() {
        Sharedair air = line(3);
        air.move(2, 29, 29);
        air.exchange(10);
        int[] to = {2, 1, 2, 1};
        for (int i = 0; i < 4; i++) {
            air.send(0, to[i], i % 3 + 1);
        }
        air.pass(1);
        air.send(0, 2, 2);
        int[][] due = {{1, 2, 1}, {2, 3, 2}, {1, 1, 3}, {2, 2, 4}};
        for (int nth = 0; nth < 4; nth++) {
            for (int what = 1; what <= 3; what++) {
                check.same("inQueue(0, " + nth + ", " + what + ")", air.inQueue(0, nth, what), due[nth][what - 1]);
            }
        }
        air.pass(2);
        air.send(0, 1, 3);
        for (int nth = 0; nth < 4; nth++) {
            check.same("inQueue(0, " + nth + ", 3)", air.inQueue(0, nth, 3), nth + 2);
        }
    }

    private static void sendRefuses() {
        Sharedair air = line(2);
        check.refused("send", INDEX, air, () -> air.send(-1, 1, 1));
        check.refused("send", INDEX, air, () -> air.send(0, 2, 0));
        check.refused("send", INDEX, air, () -> air.send(2, 2, 1));
        check.refused("send", ARGUMENT, air, () -> air.send(1, 1, 1));
        check.refused("send", ARGUMENT, air, () -> air.send(0, 1, 0));
        check.refused("send", ARGUMENT, air, () -> air.send(0, 1, 4));
        for (int i = 0; i < 4; i++) {
            check.same("send", air.send(0, 1, 1), i);
        }
        check.refused("send to a full queue", STATE, air, () -> air.send(0, 1, 1));
        check.refused("send of a wrong length to a full queue", ARGUMENT, air, () -> air.send(0, 1, 4));
        check.same("ofNode(0, 15)", air.ofNode(0, 15), 4);
        check.refused("delivered", INDEX, air, () -> air.delivered(0, 4));
        check.refused("delivered", INDEX, air, () -> air.delivered(0, -1));
        check.refused("delivered", INDEX, air, () -> air.delivered(2, 0));
        check.refused("delivered", INDEX, air, () -> air.delivered(-1, 0));
        check.same("delivered(0, 3)", air.delivered(0, 3), false);
    }

    private static void passRefuses() {
        Sharedair air = line(2);
        check.refused("pass", ARGUMENT, air, () -> air.pass(0));
        check.refused("pass", ARGUMENT, air, () -> air.pass(201));
        check.refused("pass", ARGUMENT, air, () -> air.pass(Integer.MIN_VALUE));
        check.refused("pass", ARGUMENT, air, () -> air.pass(Integer.MAX_VALUE));
        for (int i = 1; i <= 9; i++) {
            check.same("pass(200)", air.pass(200), 200 * i);
        }
        check.same("pass(199)", air.pass(199), 1999);
        check.refused("pass beyond 2000", STATE, air, () -> air.pass(2));
        check.same("pass(1)", air.pass(1), 2000);
        check.refused("pass at 2000", STATE, air, () -> air.pass(1));
        check.refused("pass at 2000", ARGUMENT, air, () -> air.pass(201));
        check.same("air(0)", air.air(0), 2000);
    }

    private static void frameOfTwoSlots() {
        Sharedair air = line(2);
        air.send(0, 1, 2);
        check.same("pass", air.pass(1), 1);
        state(air, 0, "first slot", 1, 0, 0, 1, 1, 1, 1, 0, 0);
        check.same("row()", air.row(), "T.");
        check.same("air(3)", air.air(3), 1);
        check.same("delivered(0, 0)", air.delivered(0, 0), false);
        air.pass(1);
        state(air, 0, "second slot", 0, 0, 0, 0, -1, 2, 1, 0, 0);
        check.same("row()", air.row(), "..");
        check.same("air(3)", air.air(3), 0);
        check.same("air(4)", air.air(4), 1);
        check.same("delivered(0, 0)", air.delivered(0, 0), true);
    }

    private static void withoutRouteDropped() {
        Sharedair air = new Sharedair();
        air.node(0, 0, 5, false);
        air.node(4, 0, 5, false);
        air.send(0, 1, 1);
        air.send(0, 1, 1);
        air.pass(1);
        state(air, 0, "without route", 1, 0, 0, 0, -1, 0, 0, 0, 0);
        check.same("air(6)", air.air(6), 1);
        check.same("inQueue(0, 0, 3)", air.inQueue(0, 0, 3), 1);
        check.same("inQueue(0, 1, 3)", air.inQueue(0, 1, 3), -1);
        air.exchange(1);
        air.pass(1);
        check.same("delivered(0, 0)", air.delivered(0, 0), false);
        check.same("delivered(0, 1)", air.delivered(0, 1), true);
        check.same("air(6) then", air.air(6), 1);
    }

    private static void busyNodesHoldBack() {
        Sharedair air = line(2);
        air.send(0, 1, 3);
        air.pass(1);
        air.send(1, 0, 1);
        air.pass(1);
        check.same("row() while busy", air.row(), "Tq");
        air.pass(1);
        check.same("row() at the last slot", air.row(), ".q");
        air.pass(1);
        check.same("row() then", air.row(), "..");
        check.same("delivered(1, 0)", air.delivered(1, 0), true);
        check.same("air(2)", air.air(2), 41);
    }

    private static void waitStandsStillWhileBusy() {
        Sharedair air = new Sharedair();
        air.node(0, 0, 9, false);
        air.node(4, 0, 9, false);
        air.node(2, 3, 9, false);
        air.exchange(1);
        air.send(0, 2, 1);
        air.send(1, 2, 1);
        air.pass(1);
        state(air, 0, "collision", 1, 3, 1, 0, -1, 1, 1, 3, 1);
        state(air, 1, "collision", 1, 2, 1, 0, -1, 1, 1, 2, 1);
        check.same("air(2)", air.air(2), 335);
        air.send(2, 0, 3);
        int[][] waits = {{2, 1}, {2, 1}, {2, 1}, {1, 0}};
        String[] rows = {"wwT", "wwT", "ww.", "wq."};
        for (int i = 0; i < waits.length; i++) {
            air.pass(1);
            check.same("WAIT of 0", air.ofNode(0, 5), waits[i][0]);
            check.same("WAIT of 1", air.ofNode(1, 5), waits[i][1]);
            check.same("row()", air.row(), rows[i]);
        }
        air.pass(1);
        state(air, 1, "repeated", 0, 0, 0, 0, -1, 2, 2, 2, 1);
        check.same("row()", air.row(), "q..");
        check.same("delivered(1, 0)", air.delivered(1, 0), true);
    }

    private static void hiddenSenderSpoilsOneSlot() {
        Sharedair air = line(3);
        air.send(0, 1, 3);
        air.pass(1);
        air.send(2, 1, 1);
        air.pass(1);
        state(air, 2, "not got", 1, 3, 1, 0, -1, 1, 1, 3, 1);
        air.pass(1);
        state(air, 0, "one slot spoilt", 1, 2, 1, 0, -1, 3, 1, 2, 1);
        check.same("air(4)", air.air(4), 0);
    }

    private static void captureByTheNearer() {
        Sharedair air = new Sharedair();
        air.node(10, 10, 42, false);
        air.node(12, 10, 42, false);
        air.node(10, 14, 42, false);
        air.exchange(1);
        air.send(1, 0, 1);
        air.send(2, 0, 1);
        air.pass(1);
        check.same("delivered(1, 0)", air.delivered(1, 0), true);
        check.same("delivered(2, 0)", air.delivered(2, 0), false);
        check.same("ofNode(2, 6)", air.ofNode(2, 6), 1);
    }

    private static void unheardAnswerIsRepeatedTillDropped() {
        Sharedair air = line(2);
        air.tune(1, 1, false);
        air.send(0, 1, 1);
        air.pass(1);
        state(air, 0, "try 1", 1, 3, 1, 0, -1, 1, 1, 3, 1);
        check.same("air(4)", air.air(4), 1);
        check.same("row()", air.row(), "w.");
        air.pass(3);
        check.same("row()", air.row(), "q.");
        air.pass(1);
        state(air, 0, "try 2", 1, 5, 2, 0, -1, 2, 2, 8, 2);
        check.same("air(5)", air.air(5), 1);
        air.pass(6);
        state(air, 0, "try 3", 1, 6, 3, 0, -1, 3, 3, 14, 3);
        air.pass(7);
        state(air, 0, "try 4", 1, 30, 4, 0, -1, 4, 4, 44, 4);
        air.pass(30);
        check.same("air(6)", air.air(6), 0);
        air.pass(1);
        state(air, 0, "try 5", 0, 0, 0, 0, -1, 5, 5, 44, 4);
        check.same("air(2)", air.air(2), 485);
        check.same("air(4)", air.air(4), 1);
        check.same("air(5)", air.air(5), 4);
        check.same("air(6)", air.air(6), 1);
        check.same("delivered(0, 0)", air.delivered(0, 0), true);
    }

    private static void cheatDoesNotWait() {
        Sharedair air = line(2);
        air.tune(1, 1, false);
        air.tune(0, 5, true);
        air.send(0, 1, 1);
        air.pass(4);
        state(air, 0, "cheat", 1, 0, 4, 0, -1, 4, 4, 0, 4);
        air.pass(1);
        state(air, 0, "cheat", 0, 0, 0, 0, -1, 5, 5, 0, 4);
        check.same("air(2)", air.air(2), 41);
        check.same("air(6)", air.air(6), 1);
    }

    private static void nodeThatComesLaterDisturbs() {
        Sharedair air = line(2);
        air.send(0, 1, 2);
        air.pass(1);
        check.same("node", air.node(8, 0, 5, false), 2);
        check.same("a node that is new has no route", air.route(2, 1, 1), -1);
        air.pass(1);
        check.same("delivered(0, 0)", air.delivered(0, 0), true);
        air.exchange(2);
        air.send(0, 1, 1);
        air.send(2, 1, 1);
        air.pass(1);
        check.same("air(4)", air.air(4), 1);
        check.same("row()", air.row(), "w.w");
    }

    private static void copyGoesOn() {
        Sharedair air = line(3);
        air.send(0, 2, 2);
        air.pass(2);
        int[] copy = {0, 2, 2, 0, 1};
        for (int what = 0; what <= 4; what++) {
            check.same("inQueue(1, 0, " + what + ")", air.inQueue(1, 0, what), copy[what]);
        }
        check.same("row()", air.row(), ".q.");
        check.same("ofNode(1, 15)", air.ofNode(1, 15), 0);
        check.same("air(4)", air.air(4), 0);
        air.pass(2);
        check.same("delivered(0, 0)", air.delivered(0, 0), true);
        check.same("air(7)", air.air(7), 0);
    }

    private static void fullQueueDropsTheCopyOnly() {
        Sharedair air = line(3);
        air.send(0, 2, 2);
        air.pass(1);
        for (int i = 0; i < 4; i++) {
            air.send(1, 0, 1);
        }
        air.pass(1);
        check.same("air(6)", air.air(6), 1);
        state(air, 0, "sent to a full queue", 0, 0, 0, 0, -1, 2, 1, 0, 0);
        check.same("ofNode(1, 4)", air.ofNode(1, 4), 4);
        check.same("inQueue(1, 3, 0)", air.inQueue(1, 3, 0), 1);

        Sharedair other = line(2);
        other.send(0, 1, 2);
        other.pass(1);
        for (int i = 0; i < 4; i++) {
            other.send(1, 0, 1);
        }
        other.pass(1);
        check.same("a full queue hinders no delivery", other.delivered(0, 0), true);
        check.same("air(6)", other.air(6), 0);
    }

    private static void hopsEndInACircle() {
        Sharedair air = RoutesTest.circle();
        air.send(0, 2, 1);
        for (int hops = 1; hops <= 7; hops++) {
            air.pass(1);
            check.same("HOPS", air.inQueue(hops % 2 == 1 ? 3 : 0, 0, 4), hops);
        }
        check.same("air(6)", air.air(6), 0);
        air.pass(1);
        check.same("air(6)", air.air(6), 1);
        check.same("air(7)", air.air(7), 0);
        check.same("ofNode(3, 6)", air.ofNode(3, 6), 0);
    }

    private static void inQueueRefuses() {
        Sharedair air = line(2);
        air.send(0, 1, 1);
        check.same("inQueue(0, 1, 0)", air.inQueue(0, 1, 0), -1);
        check.same("inQueue(0, MAX, 0)", air.inQueue(0, Integer.MAX_VALUE, 0), -1);
        check.refused("inQueue", INDEX, air, () -> air.inQueue(2, -1, 0));
        check.refused("inQueue", INDEX, air, () -> air.inQueue(-1, 0, 0));
        check.refused("inQueue", ARGUMENT, air, () -> air.inQueue(0, -1, 0));
        check.refused("inQueue", ARGUMENT, air, () -> air.inQueue(0, 0, 5));
        check.refused("inQueue", ARGUMENT, air, () -> air.inQueue(0, 9, -1));
    }
}
