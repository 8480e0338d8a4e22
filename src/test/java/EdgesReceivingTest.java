/** The edges in the document's part 2, as FRAMES end: what is got, RECEIVED, DELIVERED, repeated, DROPPED (promises 6, 16). */
public final class EdgesReceivingTest {
    private static final Class<?> INDEX = IndexOutOfBoundsException.class;
    private static final Check check = new Check();

    public static void main(String[] args) {
        quarterOfFar();
        samePlace();
        senderGetsNothing();
        senderSinceAnEarlierSlotGetsNothing();
        unheardDoesNotDisturb();
        firstSlotSpoilt();
        lastSlotSpoilt();
        nextOutOfHearingForASlot();
        deliveredUnknownToTheSender();
        knownAsItEndsIsEnough();
        knownAsItBeginsIsNot();
        fourTriesAreRepeated();
        fifthTryDrops();
        nextFrameBeginsWithoutTries();
        successEndsTries();
        cheatDrawsNothing();
        drawsNodeByNode();
        onceDeliveredThenDouble();
        sameNumberOfAnotherFrom();
        doubleIsOneForItsToOnly();
        deliveredFromTheFirstNumberToTheLast();
        numbersToTheLastOfAllCalls();
        sixHopsAreCopiedSevenAreNot();
        sevenHopsAreDelivered();
        queueOfThreeTakesTheCopy();
        queueOfFourDropsTheCopy();
        queueOfFourTakesADelivery();
        sevenHopsToAFullQueueAreOneDropped();
        placeLeftGoesToTheSmallerNumber();
        check.end();
    }

    private static Sharedair line(int nodes) {
        return EdgesSlotsTest.line(nodes);
    }

    private static Sharedair deafPair() {
        return EdgesSlotsTest.deafPair();
    }

    private static void asked(Sharedair air, String name, int node, int what, int due) {
        check.same(name + " of " + node, air.ofNode(node, what), due);
    }

    /** Node 0 is to get node 1, at FAR 5, while node 2 sends. */
    private static Sharedair disturbed(int x, int y) {
        Sharedair air = new Sharedair();
        air.node(10, 10, 42, false);
        air.node(11, 12, 42, false);
        air.node(x, y, 42, false);
        air.exchange(1);
        air.send(1, 0, 1);
        air.send(2, 0, 1);
        return air;
    }

    private static void quarterOfFar() {
        Sharedair just = disturbed(12, 14);
        check.same("would() by FAR 5 and 20", just.would(6, 0), 1);
        just.pass(1);
        check.same("delivered() by FAR 5 and 20", just.delivered(1, 0), true);
        Sharedair nearer = disturbed(13, 13);
        check.same("would() by FAR 5 and 18", nearer.would(6, 0), -1);
        nearer.pass(1);
        check.same("delivered() by FAR 5 and 18", nearer.delivered(1, 0), false);
        check.same("delivered() by FAR 18 and 5", nearer.delivered(2, 0), false);
    }

    private static void samePlace() {
        Sharedair air = new Sharedair();
        for (int i = 0; i < 3; i++) {
            air.node(9, 9, 1, false);
        }
        air.exchange(1);
        air.send(1, 0, 1);
        air.send(2, 0, 1);
        check.same("would() of two of FAR 0", air.would(6, 0), 1);
        air.pass(1);
        check.same("delivered() by FAR 0 and 0", air.delivered(1, 0), true);
        check.same("delivered() by FAR 0 and 0", air.delivered(2, 0), true);
    }

    private static void senderGetsNothing() {
        Sharedair air = line(2);
        air.send(0, 1, 1);
        air.send(1, 0, 1);
        air.pass(1);
        check.same("DELIVERED", air.air(4), 0);
        asked(air, "TRIES", 0, 6, 1);
        asked(air, "TRIES", 1, 6, 1);
    }

    /** 1 has been sending as 0, which does not hear it, begins to send to it. */
    private static void senderSinceAnEarlierSlotGetsNothing() {
        Sharedair air = deafPair();
        air.send(1, 0, 3);
        air.pass(1);
        air.send(0, 1, 1);
        air.pass(1);
        asked(air, "STARTS", 0, 10, 1);
        asked(air, "TRIES", 0, 6, 1);
        check.same("delivered() to one that is sending", air.delivered(0, 0), false);
    }

    private static void unheardDoesNotDisturb() {
        Sharedair air = new Sharedair();
        air.node(10, 10, 5, false);
        air.node(10, 13, 5, false);
        air.node(12, 10, 1, false);
        air.node(13, 10, 5, false);
        air.exchange(1);
        air.send(1, 0, 1);
        air.send(2, 3, 1);
        air.pass(1);
        check.same("FAR 9, and a nearer one that is not heard", air.delivered(1, 0), true);
        check.same("FAR 1, and one at FAR 18 that is heard", air.delivered(2, 0), true);
    }

    private static void firstSlotSpoilt() {
        Sharedair air = line(3);
        air.send(0, 1, 2);
        air.send(2, 1, 1);
        air.pass(2);
        asked(air, "TRIES, the first SLOT was not got", 0, 6, 1);
        check.same("DELIVERED", air.air(4), 0);
    }

    private static void lastSlotSpoilt() {
        Sharedair air = line(3);
        air.send(0, 1, 2);
        air.pass(1);
        air.send(2, 1, 1);
        air.pass(1);
        asked(air, "TRIES, the last SLOT was not got", 0, 6, 1);
        check.same("DELIVERED", air.air(4), 0);
    }

    private static void nextOutOfHearingForASlot() {
        Sharedair air = line(2);
        air.send(0, 1, 3);
        air.pass(1);
        air.move(1, 6, 0);
        air.pass(1);
        air.move(1, 4, 0);
        air.pass(1);
        check.same("delivered(), one SLOT was not heard", air.delivered(0, 0), false);
        asked(air, "TRIES", 0, 6, 1);
        Sharedair within = line(2);
        within.send(0, 1, 3);
        within.pass(1);
        within.move(1, 5, 0);
        within.pass(2);
        check.same("delivered(), all were heard", within.delivered(0, 0), true);
    }

    private static void deliveredUnknownToTheSender() {
        Sharedair air = deafPair();
        air.send(0, 1, 1);
        air.pass(1);
        check.same("delivered()", air.delivered(0, 0), true);
        asked(air, "FRAMES in the QUEUE", 0, 4, 1);
        asked(air, "TRIES", 0, 6, 1);
        asked(air, "REPEATS", 0, 12, 1);
    }

    private static void knownAsItEndsIsEnough() {
        Sharedair air = deafPair();
        air.send(0, 1, 2);
        air.pass(1);
        air.tune(1, 5, false);
        air.pass(1);
        check.same("delivered()", air.delivered(0, 0), true);
        asked(air, "FRAMES in the QUEUE", 0, 4, 0);
        asked(air, "TRIES", 0, 6, 0);
    }

    private static void knownAsItBeginsIsNot() {
        Sharedair air = line(2);
        air.send(0, 1, 2);
        air.pass(1);
        air.tune(1, 3, false);
        air.pass(1);
        check.same("delivered()", air.delivered(0, 0), true);
        asked(air, "FRAMES in the QUEUE", 0, 4, 1);
        asked(air, "TRIES", 0, 6, 1);
    }

    /** LUCK is 430, 335, 220, 485 after 1 to 4 draws, of 4, 8, 16 and 32. */
    private static void fourTriesAreRepeated() {
        Sharedair air = deafPair();
        air.send(0, 1, 1);
        int[] waits = {3, 5, 6, 30};
        int patience = 0;
        for (int tries = 1; tries <= 4; tries++) {
            air.pass(1);
            patience += waits[tries - 1];
            asked(air, "TRIES", 0, 6, tries);
            asked(air, "WAIT", 0, 5, waits[tries - 1]);
            asked(air, "PATIENCE", 0, 11, patience);
            asked(air, "REPEATS", 0, 12, tries);
            check.same("DROPPED", air.air(6), 0);
            air.pass(waits[tries - 1]);
        }
        asked(air, "FRAMES in the QUEUE", 0, 4, 1);
    }

    private static void fifthTryDrops() {
        Sharedair air = deafPair();
        air.send(0, 1, 1);
        air.pass(48);
        asked(air, "STARTS ahead of the fifth", 0, 10, 4);
        asked(air, "WAIT ahead of the fifth", 0, 5, 0);
        air.pass(1);
        asked(air, "STARTS", 0, 10, 5);
        asked(air, "FRAMES in the QUEUE", 0, 4, 0);
        asked(air, "TRIES", 0, 6, 0);
        asked(air, "WAIT", 0, 5, 0);
        asked(air, "REPEATS", 0, 12, 4);
        asked(air, "PATIENCE", 0, 11, 44);
        check.same("DROPPED", air.air(6), 1);
        check.same("LUCK, drawn four times", air.air(2), 485);
    }

    private static void nextFrameBeginsWithoutTries() {
        Sharedair air = deafPair();
        air.send(0, 1, 1);
        air.send(0, 1, 1);
        air.pass(49);
        asked(air, "FRAMES in the QUEUE", 0, 4, 1);
        asked(air, "TRIES", 0, 6, 0);
        air.pass(1);
        asked(air, "STARTS", 0, 10, 6);
        asked(air, "TRIES of the following FRAME", 0, 6, 1);
        asked(air, "WAIT, one of 4 again", 0, 5, 186 * 4 / 512);
    }

    private static void successEndsTries() {
        Sharedair air = deafPair();
        air.send(0, 1, 1);
        air.pass(48);
        asked(air, "TRIES", 0, 6, 4);
        air.tune(1, 5, false);
        air.pass(1);
        asked(air, "TRIES", 0, 6, 0);
        asked(air, "FRAMES in the QUEUE", 0, 4, 0);
        check.same("DROPPED", air.air(6), 0);
        check.same("DELIVERED", air.air(4), 1);
        check.same("DOUBLES", air.air(5), 4);
    }

    private static void cheatDrawsNothing() {
        Sharedair air = deafPair();
        air.tune(0, 5, true);
        air.send(0, 1, 1);
        for (int tries = 1; tries <= 4; tries++) {
            air.pass(1);
            asked(air, "WAIT of a CHEAT", 0, 5, 0);
            asked(air, "TRIES of a CHEAT", 0, 6, tries);
            asked(air, "REPEATS of a CHEAT", 0, 12, tries);
        }
        asked(air, "PATIENCE of a CHEAT", 0, 11, 0);
        check.same("LUCK", air.air(2), 41);
        air.pass(1);
        check.same("DROPPED", air.air(6), 1);
    }

    /** LUCK is 430, 335, 220, 485, 186, 363, 200, 353 after 1 to 8 draws, all of 4; the CHEAT 3 draws none. */
    private static void drawsNodeByNode() {
        Sharedair air = new Sharedair();
        for (int i = 0; i < 8; i++) {
            air.node(i, 0, 42, i == 3);
        }
        air.exchange(1);
        for (int i = 7; i >= 0; i--) {
            air.send(i, (i + 1) % 8, 1);
        }
        air.pass(1);
        int[] due = {3, 2, 1, 0, 3, 1, 2, 1};
        for (int i = 0; i < 8; i++) {
            asked(air, "WAIT", i, 5, due[i]);
        }
        check.same("LUCK", air.air(2), 200);
    }

    private static void onceDeliveredThenDouble() {
        Sharedair air = deafPair();
        air.tune(0, 5, true);
        air.send(0, 1, 1);
        for (int times = 1; times <= 5; times++) {
            air.pass(1);
            check.same("DELIVERED", air.air(4), 1);
            check.same("DOUBLES", air.air(5), times - 1);
            check.same("delivered()", air.delivered(0, 0), true);
        }
    }

    private static void sameNumberOfAnotherFrom() {
        Sharedair air = line(3);
        air.send(0, 1, 1);
        air.pass(1);
        air.send(2, 1, 1);
        air.pass(1);
        check.same("delivered(0, 0)", air.delivered(0, 0), true);
        check.same("delivered(2, 0)", air.delivered(2, 0), true);
        check.same("DELIVERED", air.air(4), 2);
        check.same("DOUBLES", air.air(5), 0);
        air.send(0, 1, 1);
        air.pass(1);
        check.same("DELIVERED, another NUMBER", air.air(4), 3);
    }

    /** 0 does not hear 1, which hears it: over 1 the same FRAME goes to 2 twice, as a copy each time. */
    private static void doubleIsOneForItsToOnly() {
        Sharedair air = line(3);
        air.tune(1, 4, false);
        air.move(0, 0, 3);
        air.send(0, 2, 1);
        air.pass(2);
        check.same("DELIVERED", air.air(4), 1);
        asked(air, "WAIT", 0, 5, 2);
        air.pass(3);
        asked(air, "FRAMES in the QUEUE", 1, 4, 1);
        check.same("DOUBLES as the copy comes again", air.air(5), 0);
        air.pass(1);
        asked(air, "FRAMES in the QUEUE", 1, 4, 0);
        check.same("DOUBLES", air.air(5), 1);
        check.same("DELIVERED", air.air(4), 1);
    }

    private static void deliveredFromTheFirstNumberToTheLast() {
        Sharedair air = line(2);
        check.refused("delivered() of none sent", INDEX, air, () -> air.delivered(0, 0));
        for (int number = 0; number < 70; number++) {
            int next = number + 1;
            air.send(0, 1, 1);
            check.same("delivered() in the QUEUE", air.delivered(0, number), false);
            air.pass(1);
            check.same("delivered() of the last", air.delivered(0, number), true);
            if (number == 0 || number == 63 || number == 69) {
                check.refused("delivered() behind the last", INDEX, air, () -> air.delivered(0, next));
            }
        }
        check.same("delivered() of the first", air.delivered(0, 0), true);
        check.refused("delivered() ahead of the first", INDEX, air, () -> air.delivered(0, -1));
        check.refused("delivered() of another FROM", INDEX, air, () -> air.delivered(1, 0));
    }

    /** As many FRAMES as 512 calls leave room for. */
    private static void numbersToTheLastOfAllCalls() {
        Sharedair air = line(2);
        for (int number = 0; number < 400; number++) {
            check.same("send()", air.send(0, 1, 1), number);
            if (number % 4 == 3) {
                air.pass(4);
            }
        }
        check.same("DELIVERED", air.air(4), 400);
        check.same("FRAMES sent", air.ofNode(0, 15), 400);
        check.same("delivered() of the last", air.delivered(0, 399), true);
        check.same("isSound()", air.isSound(), true);
    }

    /** Between 0 and 3 a FRAME for node 2, which has gone, goes in a CIRCLE. */
    private static Sharedair withHops(int hops) {
        Sharedair air = RoutesTest.circle();
        air.send(0, 2, 1);
        air.pass(hops);
        return air;
    }

    private static void sixHopsAreCopiedSevenAreNot() {
        Sharedair six = withHops(6);
        check.same("HOPS", six.inQueue(0, 0, 4), 6);
        six.pass(1);
        check.same("HOPS of the copy", six.inQueue(3, 0, 4), 7);
        check.same("DROPPED", six.air(6), 0);
        six.pass(1);
        check.same("DROPPED of 7 HOPS", six.air(6), 1);
        check.same("FRAMES in all QUEUES", six.air(7), 0);
        asked(six, "TRIES", 3, 6, 0);
    }

    private static void sevenHopsAreDelivered() {
        Sharedair air = withHops(7);
        check.same("HOPS", air.inQueue(3, 0, 4), 7);
        air.move(2, 12, 12);
        air.exchange(1);
        air.pass(1);
        check.same("delivered() with 7 HOPS", air.delivered(0, 0), true);
        check.same("DROPPED", air.air(6), 0);
    }

    /** Node 0 sends to 2 over 1, whose QUEUE has so many as that ends. */
    private static Sharedair toQueueOf(int frames, int to) {
        Sharedair air = line(3);
        air.send(0, to, 2);
        air.pass(1);
        for (int i = 0; i < frames; i++) {
            air.send(1, 0, 1);
        }
        air.pass(1);
        return air;
    }

    private static void queueOfThreeTakesTheCopy() {
        Sharedair air = toQueueOf(3, 2);
        asked(air, "FRAMES in the QUEUE", 1, 4, 4);
        int[] copy = {0, 2, 2, 0, 1};
        for (int what = 0; what <= 4; what++) {
            check.same("inQueue(1, 3, " + what + ")", air.inQueue(1, 3, what), copy[what]);
        }
        check.same("DROPPED", air.air(6), 0);
    }

    private static void queueOfFourDropsTheCopy() {
        Sharedair air = toQueueOf(4, 2);
        asked(air, "FRAMES in the QUEUE", 1, 4, 4);
        check.same("FROM of the last", air.inQueue(1, 3, 0), 1);
        check.same("DROPPED", air.air(6), 1);
        asked(air, "FRAMES in the QUEUE", 0, 4, 0);
        asked(air, "TRIES", 0, 6, 0);
    }

    private static void queueOfFourTakesADelivery() {
        Sharedair air = toQueueOf(4, 1);
        check.same("delivered()", air.delivered(0, 0), true);
        asked(air, "FRAMES in the QUEUE", 1, 4, 4);
        check.same("DROPPED", air.air(6), 0);
    }

    private static void sevenHopsToAFullQueueAreOneDropped() {
        Sharedair air = RoutesTest.circle();
        air.send(0, 2, 2);
        air.pass(15);
        check.same("HOPS", air.inQueue(3, 0, 4), 7);
        asked(air, "SLOTS to come", 3, 7, 1);
        for (int i = 0; i < 4; i++) {
            air.send(0, 1, 1);
        }
        air.pass(1);
        check.same("DROPPED", air.air(6), 1);
        asked(air, "FRAMES in the QUEUE", 0, 4, 4);
        asked(air, "FRAMES in the QUEUE", 3, 4, 0);
        check.same("NUMBER of the last", air.inQueue(0, 3, 3), 4);
    }

    /** Nodes 0 and 1 stand where 2 does, and it gets both; its QUEUE has one place left. */
    private static void placeLeftGoesToTheSmallerNumber() {
        Sharedair air = new Sharedair();
        air.node(0, 0, 1, false);
        air.node(0, 0, 1, false);
        air.node(0, 0, 5, false);
        air.node(4, 0, 5, false);
        air.exchange(2);
        air.send(1, 3, 2);
        air.send(0, 3, 2);
        air.pass(1);
        for (int i = 0; i < 3; i++) {
            air.send(2, 3, 1);
        }
        air.pass(1);
        check.same("FROM of the fourth", air.inQueue(2, 3, 0), 0);
        check.same("DROPPED", air.air(6), 1);
        check.same("FRAMES in all QUEUES", air.air(7), 4);
    }
}
