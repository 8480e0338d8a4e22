/** The edges in the document's part 2, as FRAMES are sent: QUEUE, LENGTH, NEXT, HEARS BUSY, WAIT, TRIES (promises 5, 6, 13). */
public final class EdgesSlotsTest {
    private static final Class<?> ARGUMENT = IllegalArgumentException.class;
    private static final Class<?> STATE = IllegalStateException.class;
    private static final Check check = new Check();

    public static void main(String[] args) {
        queueHoldsFour();
        emptyQueueSendsNothing();
        allIsZeroAtFirst();
        lengthIsOneToThree();
        oneSlotBeginsAndEnds();
        threeSlotsAreCountedDown();
        numbersAreThoseOfTheirFrom();
        queueIsAskedFromTheFirstToTheLast();
        followersMoveUp();
        nextIsByTheRouteAsItBegins();
        repeatGoesByTheRouteOfThen();
        copyGoesByTheRouteOfItsQueue();
        busySinceAnEarlierSlotOnly();
        busyInTheLastSlotStill();
        unheardIsNotBusy();
        senderIsNotHeldBackByAnother();
        cheatIsHeldBackWhileBusy();
        waitOfOneIsNotYetOver();
        waitOfACheatIsWaitedOut();
        waitStandsWhileBusy();
        waitComesAheadOfTheRoute();
        oneFrameWithoutRouteASlot();
        triesAreZeroWithoutRoute();
        passIsOneToTwoHundred();
        eachSlotGoesByAlike();
        check.end();
    }

    /** Nodes in a line, each LINKED with its neighbours only, with ROUTES to all. */
    static Sharedair line(int nodes) {
        Sharedair air = new Sharedair();
        for (int i = 0; i < nodes; i++) {
            air.node(4 * i, 0, 5, false);
        }
        air.exchange(8);
        return air;
    }

    /** Node 0 has a ROUTE to node 1, which hears it, but isn't heard: what 0 sends to 1 is repeated. */
    static Sharedair deafPair() {
        Sharedair air = line(2);
        air.tune(1, 1, false);
        return air;
    }

    private static void asked(Sharedair air, String name, int node, int what, int due) {
        check.same(name + " of " + node, air.ofNode(node, what), due);
    }

    private static void queueHoldsFour() {
        Sharedair air = line(2);
        for (int i = 0; i < 4; i++) {
            asked(air, "FRAMES in the QUEUE", 0, 4, i);
            check.same("send()", air.send(0, 1, 1), i);
        }
        check.refused("the fifth send()", STATE, air, () -> air.send(0, 1, 1));
        asked(air, "FRAMES in the QUEUE", 0, 4, 4);
        air.pass(1);
        check.same("send() with 3 in the QUEUE", air.send(0, 1, 1), 4);
        check.refused("send() with 4 again", STATE, air, () -> air.send(0, 1, 1));
    }

    private static void emptyQueueSendsNothing() {
        Sharedair air = line(2);
        air.pass(200);
        check.same("row()", air.row(), "..");
        asked(air, "STARTS", 0, 10, 0);
        asked(air, "AIR", 0, 9, 0);
        check.same("FRAMES in all QUEUES", air.air(7), 0);
        for (int what = 0; what <= 4; what++) {
            check.same("inQueue() of an empty QUEUE", air.inQueue(0, 0, what), -1);
        }
    }

    private static void allIsZeroAtFirst() {
        Sharedair air = line(2);
        asked(air, "WAIT", 0, 5, 0);
        asked(air, "TRIES", 0, 6, 0);
        asked(air, "SLOTS to come", 0, 7, 0);
        asked(air, "NEXT", 0, 8, -1);
        asked(air, "FRAMES sent", 0, 15, 0);
        air.send(0, 1, 1);
        check.same("HOPS", air.inQueue(0, 0, 4), 0);
        check.same("NUMBER", air.inQueue(0, 0, 3), 0);
        asked(air, "NEXT before it begins", 0, 8, -1);
    }

    private static void lengthIsOneToThree() {
        Sharedair air = line(2);
        check.refused("send() of LENGTH 0", ARGUMENT, air, () -> air.send(0, 1, 0));
        check.refused("send() of LENGTH 4", ARGUMENT, air, () -> air.send(0, 1, 4));
        check.same("send() of LENGTH 1", air.send(0, 1, 1), 0);
        check.same("send() of LENGTH 3", air.send(0, 1, 3), 1);
        check.same("LENGTH 1", air.inQueue(0, 0, 2), 1);
        check.same("LENGTH 3", air.inQueue(0, 1, 2), 3);
    }

    private static void oneSlotBeginsAndEnds() {
        Sharedair air = line(2);
        air.send(0, 1, 1);
        air.pass(1);
        asked(air, "STARTS", 0, 10, 1);
        asked(air, "AIR", 0, 9, 1);
        asked(air, "SLOTS to come", 0, 7, 0);
        asked(air, "NEXT", 0, 8, -1);
        check.same("delivered()", air.delivered(0, 0), true);
        check.same("sending", air.air(3), 0);
    }

    private static void threeSlotsAreCountedDown() {
        Sharedair air = line(2);
        air.send(0, 1, 3);
        for (int toCome = 2; toCome >= 0; toCome--) {
            check.same("delivered() before it ends", air.delivered(0, 0), false);
            air.pass(1);
            asked(air, "SLOTS to come", 0, 7, toCome);
            asked(air, "AIR", 0, 9, 3 - toCome);
            asked(air, "STARTS", 0, 10, 1);
            asked(air, "NEXT", 0, 8, toCome > 0 ? 1 : -1);
            asked(air, "FRAMES in the QUEUE", 0, 4, toCome > 0 ? 1 : 0);
        }
        check.same("delivered()", air.delivered(0, 0), true);
    }

    private static void numbersAreThoseOfTheirFrom() {
        Sharedair air = line(3);
        check.same("first of 0", air.send(0, 2, 1), 0);
        air.pass(1);
        check.same("FROM of the copy in the QUEUE of 1", air.inQueue(1, 0, 0), 0);
        asked(air, "FRAMES sent, the copy not counted", 1, 15, 0);
        check.same("first of 1", air.send(1, 0, 1), 0);
        check.same("second of 0", air.send(0, 1, 1), 1);
        check.same("second of 1", air.send(1, 2, 1), 1);
        asked(air, "FRAMES sent", 1, 15, 2);
        asked(air, "FRAMES sent", 2, 15, 0);
    }

    private static void queueIsAskedFromTheFirstToTheLast() {
        Sharedair air = line(3);
        for (int i = 0; i < 4; i++) {
            air.send(1, i % 2 * 2, 1 + i % 3);
        }
        for (int nth = 0; nth < 4; nth++) {
            int[] due = {1, nth % 2 * 2, 1 + nth % 3, nth, 0};
            for (int what = 0; what <= 4; what++) {
                check.same("inQueue(1, " + nth + ", " + what + ")", air.inQueue(1, nth, what), due[what]);
            }
        }
        check.same("inQueue() of the fifth", air.inQueue(1, 4, 0), -1);
        check.same("inQueue() far behind the last", air.inQueue(1, Integer.MAX_VALUE, 3), -1);
        check.refused("inQueue() ahead of the first", ARGUMENT, air, () -> air.inQueue(1, -1, 0));
        check.refused("inQueue() of what -1", ARGUMENT, air, () -> air.inQueue(1, 0, -1));
        check.refused("inQueue() of what 5", ARGUMENT, air, () -> air.inQueue(1, 0, 5));
    }

    private static void followersMoveUp() {
        Sharedair air = line(2);
        for (int number = 0; number < 4; number++) {
            air.send(0, 1, 1);
        }
        for (int gone = 1; gone <= 4; gone++) {
            air.pass(1);
            for (int nth = 0; nth <= 4; nth++) {
                check.same("NUMBER of " + nth + " behind " + gone, air.inQueue(0, nth, 3), nth < 4 - gone ? nth + gone : -1);
            }
        }
        check.same("NUMBER to an empty QUEUE", air.send(0, 1, 3), 4);
        air.send(0, 1, 2);
        check.same("NUMBER of the first", air.inQueue(0, 0, 3), 4);
        check.same("LENGTH of the first", air.inQueue(0, 0, 2), 3);
        check.same("LENGTH of the second", air.inQueue(0, 1, 2), 2);
    }

    private static void nextIsByTheRouteAsItBegins() {
        Sharedair air = line(3);
        air.send(0, 2, 3);
        air.pass(1);
        asked(air, "NEXT", 0, 8, 1);
        air.move(2, 3, 4);
        air.exchange(1);
        check.same("ROUTE from now on", air.route(0, 2, 1), 2);
        air.send(0, 2, 3);
        air.pass(1);
        asked(air, "NEXT of what was begun", 0, 8, 1);
        air.pass(1);
        check.same("copy in the QUEUE of the old NEXT", air.inQueue(1, 0, 4), 1);
        air.pass(1);
        asked(air, "NEXT of the following FRAME", 0, 8, 2);
    }

    /** 0 sends to 2 over 1 and does not know of it; as it repeats, it is LINKED with 2. */
    private static void repeatGoesByTheRouteOfThen() {
        Sharedair air = line(3);
        air.tune(1, 1, false);
        air.send(0, 2, 2);
        air.pass(1);
        asked(air, "NEXT of the first try", 0, 8, 1);
        air.pass(1);
        asked(air, "WAIT", 0, 5, 3);
        air.move(2, 3, 4);
        air.exchange(1);
        air.pass(4);
        asked(air, "STARTS", 0, 10, 2);
        asked(air, "NEXT of the second try", 0, 8, 2);
        air.pass(1);
        check.same("delivered()", air.delivered(0, 0), true);
    }

    /** 1 has lost its ROUTE to 2, which 0 still has over 1; what has come to 1 is DROPPED there. */
    private static void copyGoesByTheRouteOfItsQueue() {
        Sharedair air = line(3);
        air.move(2, 29, 29);
        air.exchange(1);
        check.same("ROUTE of 0", air.route(0, 2, 1), 1);
        check.same("ROUTE of 1", air.route(1, 2, 1), -1);
        air.send(0, 2, 1);
        air.pass(1);
        asked(air, "FRAMES in the QUEUE", 1, 4, 1);
        check.same("DROPPED ahead", air.air(6), 0);
        air.pass(1);
        asked(air, "FRAMES in the QUEUE", 1, 4, 0);
        asked(air, "STARTS", 1, 10, 0);
        check.same("DROPPED", air.air(6), 1);
    }

    private static void busySinceAnEarlierSlotOnly() {
        Sharedair air = line(2);
        air.send(0, 1, 2);
        air.send(1, 0, 2);
        air.pass(1);
        check.same("both begin in the same SLOT", air.row(), "TT");
        asked(air, "STARTS", 0, 10, 1);
        asked(air, "STARTS", 1, 10, 1);
    }

    private static void busyInTheLastSlotStill() {
        Sharedair air = line(2);
        air.send(0, 1, 2);
        air.pass(1);
        air.send(1, 0, 1);
        air.pass(1);
        asked(air, "STARTS in the last SLOT of the other", 1, 10, 0);
        air.pass(1);
        asked(air, "STARTS behind the last SLOT of the other", 1, 10, 1);
    }

    private static void unheardIsNotBusy() {
        Sharedair air = line(2);
        air.tune(0, 3, false);
        air.send(0, 1, 3);
        air.pass(1);
        air.send(1, 0, 1);
        air.pass(1);
        asked(air, "STARTS of one that does not hear the sender", 1, 10, 1);
        Sharedair heard = line(2);
        heard.tune(0, 4, false);
        heard.send(0, 1, 3);
        heard.pass(1);
        heard.send(1, 0, 1);
        heard.pass(1);
        asked(heard, "STARTS of one that hears the sender", 1, 10, 0);
    }

    private static void senderIsNotHeldBackByAnother() {
        Sharedair air = line(3);
        air.send(0, 1, 3);
        air.send(1, 0, 3);
        air.pass(3);
        asked(air, "AIR", 0, 9, 3);
        asked(air, "AIR", 1, 9, 3);
        asked(air, "TRIES", 0, 6, 1);
        asked(air, "TRIES", 1, 6, 1);
    }

    private static void cheatIsHeldBackWhileBusy() {
        Sharedair air = line(2);
        air.tune(1, 5, true);
        air.send(0, 1, 3);
        air.pass(1);
        air.send(1, 0, 1);
        air.pass(2);
        asked(air, "STARTS of a CHEAT while it is busy", 1, 10, 0);
        air.pass(1);
        asked(air, "STARTS of a CHEAT thereafter", 1, 10, 1);
    }

    private static void waitOfOneIsNotYetOver() {
        Sharedair air = deafPair();
        air.send(0, 1, 1);
        air.pass(1);
        asked(air, "WAIT", 0, 5, 3);
        air.pass(2);
        asked(air, "WAIT", 0, 5, 1);
        air.pass(1);
        asked(air, "WAIT", 0, 5, 0);
        asked(air, "STARTS as WAIT was 1", 0, 10, 1);
        check.same("row()", air.row(), "q.");
        air.pass(1);
        asked(air, "STARTS as WAIT was 0", 0, 10, 2);
    }

    private static void waitOfACheatIsWaitedOut() {
        Sharedair air = deafPair();
        air.send(0, 1, 1);
        air.pass(1);
        air.tune(0, 5, true);
        asked(air, "WAIT of one that is a CHEAT now", 0, 5, 3);
        air.pass(1);
        asked(air, "WAIT", 0, 5, 2);
        air.pass(2);
        asked(air, "WAIT", 0, 5, 0);
        asked(air, "STARTS", 0, 10, 1);
        air.pass(1);
        asked(air, "STARTS", 0, 10, 2);
        asked(air, "WAIT got as a CHEAT", 0, 5, 0);
        check.same("LUCK, drawn once", air.air(2), 430);
    }

    private static void waitStandsWhileBusy() {
        Sharedair air = line(2);
        air.node(0, 4, 5, false);
        air.node(0, 8, 5, false);
        air.exchange(1);
        air.tune(1, 1, false);
        air.send(0, 1, 1);
        air.pass(1);
        asked(air, "WAIT", 0, 5, 3);
        air.send(2, 3, 2);
        air.pass(1);
        asked(air, "WAIT as the other begins", 0, 5, 2);
        air.pass(1);
        asked(air, "WAIT while it is busy", 0, 5, 2);
        air.pass(1);
        asked(air, "WAIT thereafter", 0, 5, 1);
    }

    private static void waitComesAheadOfTheRoute() {
        Sharedair air = deafPair();
        air.send(0, 1, 1);
        air.pass(1);
        air.exchange(1);
        check.same("ROUTE", air.route(0, 1, 1), -1);
        air.pass(3);
        check.same("DROPPED while it waits", air.air(6), 0);
        asked(air, "FRAMES in the QUEUE", 0, 4, 1);
        air.pass(1);
        check.same("DROPPED then", air.air(6), 1);
    }

    private static void oneFrameWithoutRouteASlot() {
        Sharedair air = line(2);
        air.move(1, 29, 29);
        air.exchange(1);
        for (int i = 0; i < 4; i++) {
            air.send(0, 1, 1);
        }
        for (int dropped = 1; dropped <= 4; dropped++) {
            air.pass(1);
            check.same("DROPPED", air.air(6), dropped);
            asked(air, "FRAMES in the QUEUE", 0, 4, 4 - dropped);
        }
        asked(air, "STARTS", 0, 10, 0);
        asked(air, "AIR", 0, 9, 0);
        air.pass(1);
        check.same("DROPPED of an empty QUEUE", air.air(6), 4);
    }

    private static void triesAreZeroWithoutRoute() {
        Sharedair air = deafPair();
        air.send(0, 1, 1);
        air.pass(1);
        asked(air, "TRIES", 0, 6, 1);
        air.exchange(1);
        air.pass(4);
        asked(air, "TRIES", 0, 6, 0);
        asked(air, "STARTS", 0, 10, 1);
        asked(air, "AIR", 0, 9, 1);
        asked(air, "REPEATS", 0, 12, 1);
        check.same("LUCK, drawn once", air.air(2), 430);
    }

    private static void passIsOneToTwoHundred() {
        Sharedair air = line(2);
        check.refused("pass(0)", ARGUMENT, air, () -> air.pass(0));
        check.refused("pass(201)", ARGUMENT, air, () -> air.pass(201));
        check.same("pass(1)", air.pass(1), 1);
        check.same("pass(200)", air.pass(200), 201);
    }

    private static Sharedair crowd() {
        Sharedair air = line(5);
        air.tune(3, 4, true);
        for (int i = 0; i < 12; i++) {
            air.send(i % 5, (i % 5 + 1 + i / 5) % 5, 1 + i % 3);
        }
        return air;
    }

    private static void eachSlotGoesByAlike() {
        Sharedair once = crowd();
        Sharedair often = crowd();
        once.pass(60);
        for (int i = 1; i <= 60; i++) {
            check.same("pass(1)", often.pass(1), i);
        }
        check.same("REPEATS in these SLOTS", often.ofNode(1, 12) > 3, true);
        check.same("what is answered behind pass(60)", Answers.of(once), Answers.of(often));
    }
}
