/** The edges in the document's part 4 and of promise 17: FAIRNESS, PATIENCE, REPEATS, who is SUSPECT. */
public final class EdgesFairnessTest {
    private static final Check check = new Check();

    public static void main(String[] args) {
        fairIfNothingWasSent();
        leastFairOfEight();
        fairIfAllSentAlike();
        airCountsEachSlot();
        repeatsOfZeroCount();
        threeRepeatsOrMore();
        lessThanNotEqual();
        littleLessIsLess();
        firstNodeIsOneOfTheOthers();
        lessThanNotEqualByNothing();
        aloneIsNoSuspect();
        check.end();
    }

    /** 0 sends to 1 and 2 sends to 3 in vain, far from each other, while 1 and 3 are not heard. */
    private static Sharedair deafPairs() {
        Sharedair air = new Sharedair();
        air.node(0, 0, 5, false);
        air.node(4, 0, 5, false);
        air.node(25, 25, 5, false);
        air.node(29, 25, 5, false);
        air.exchange(1);
        air.tune(1, 1, false);
        air.tune(3, 1, false);
        return air;
    }

    private static void asked(Sharedair air, String name, int node, int what, int due) {
        check.same(name + " of " + node, air.ofNode(node, what), due);
    }

    private static void fairIfNothingWasSent() {
        Sharedair air = new Sharedair();
        check.same("fairness() without NODES", air.fairness(), 1.0);
        air.node(0, 0, 5, false);
        check.same("fairness() of one NODE", air.fairness(), 1.0);
        air.node(4, 0, 5, false);
        air.send(0, 1, 1);
        check.same("fairness() ahead of the first SLOT", air.fairness(), 1.0);
        air.pass(1);
        check.same("DROPPED", air.air(6), 1);
        check.same("fairness(), DROPPED and not sent", air.fairness(), 1.0);
    }

    private static void leastFairOfEight() {
        Sharedair air = new Sharedair();
        for (int i = 0; i < 8; i++) {
            air.node(i, 0, 42, false);
        }
        air.exchange(1);
        air.send(7, 0, 1);
        air.pass(1);
        check.same("fairness() as one of 8 sent", air.fairness(), 0.125);
    }

    private static void fairIfAllSentAlike() {
        Sharedair air = deafPairs();
        air.tune(1, 5, false);
        air.tune(3, 5, false);
        for (int i = 0; i < 4; i++) {
            air.send(i, i ^ 1, 3);
            air.pass(3);
        }
        check.same("fairness() as all sent alike", air.fairness(), 1.0);
        air.send(0, 1, 1);
        air.pass(1);
        check.same("fairness() as one sent more", air.fairness(), 169.0 / (4 * 43));
    }

    private static void airCountsEachSlot() {
        Sharedair air = deafPairs();
        air.send(0, 1, 3);
        air.pass(2);
        asked(air, "AIR in the midst of a FRAME", 0, 9, 2);
        check.same("fairness() in the midst of a FRAME", air.fairness(), 0.25);
        air.pass(1);
        asked(air, "AIR of a FRAME sent in vain", 0, 9, 3);
    }

    private static void repeatsOfZeroCount() {
        Sharedair air = deafPairs();
        air.tune(0, 5, true);
        air.send(0, 1, 1);
        air.pass(5);
        asked(air, "REPEATS, not the DROPPED one", 0, 12, 4);
        asked(air, "PATIENCE", 0, 11, 0);
    }

    private static void threeRepeatsOrMore() {
        Sharedair air = deafPairs();
        air.tune(0, 5, true);
        air.send(0, 1, 1);
        air.send(2, 3, 1);
        air.pass(2);
        asked(air, "REPEATS", 0, 12, 2);
        asked(air, "SUSPECT by 2 REPEATS", 0, 13, 0);
        air.pass(1);
        asked(air, "REPEATS", 0, 12, 3);
        asked(air, "SUSPECT by 3 REPEATS", 0, 13, 1);
        asked(air, "SUSPECT that is patient", 2, 13, 0);
    }

    /** With PATIENCE 3 of 0, and PATIENCE 2 in 1 REPEAT of 2, 4 * 3 * 1 and 2 * 6 are the same by 6 REPEATS of 0. */
    private static void lessThanNotEqual() {
        Sharedair air = deafPairs();
        air.send(0, 1, 1);
        air.send(0, 1, 1);
        air.pass(1);
        air.tune(0, 5, true);
        air.pass(6);
        air.send(2, 3, 1);
        air.pass(3);
        asked(air, "PATIENCE", 0, 11, 3);
        asked(air, "REPEATS", 0, 12, 6);
        asked(air, "PATIENCE", 2, 11, 2);
        asked(air, "REPEATS", 2, 12, 1);
        asked(air, "SUSPECT by 12 and 12", 0, 13, 0);
    }

    private static void littleLessIsLess() {
        Sharedair air = deafPairs();
        air.send(0, 1, 2);
        air.send(2, 3, 1);
        air.pass(2);
        air.tune(0, 5, true);
        air.pass(6);
        asked(air, "PATIENCE", 0, 11, 2);
        asked(air, "REPEATS", 0, 12, 3);
        asked(air, "PATIENCE", 2, 11, 6);
        asked(air, "REPEATS", 2, 12, 2);
        asked(air, "SUSPECT by 16 and 18", 0, 13, 1);
    }

    private static void firstNodeIsOneOfTheOthers() {
        Sharedair air = deafPairs();
        air.tune(2, 5, true);
        air.send(0, 1, 1);
        air.send(2, 3, 1);
        air.pass(3);
        asked(air, "PATIENCE", 0, 11, 3);
        asked(air, "SUSPECT by PATIENCE of 0 alone", 2, 13, 1);
    }

    private static void lessThanNotEqualByNothing() {
        Sharedair air = deafPairs();
        air.tune(0, 5, true);
        air.tune(2, 5, true);
        air.send(0, 1, 1);
        air.send(2, 3, 1);
        air.pass(4);
        asked(air, "REPEATS", 2, 12, 4);
        asked(air, "SUSPECT by 0 and 0", 0, 13, 0);
        asked(air, "SUSPECT by 0 and 0", 2, 13, 0);
    }

    private static void aloneIsNoSuspect() {
        Sharedair air = deafPairs();
        air.tune(0, 5, true);
        air.send(0, 1, 1);
        air.pass(4);
        asked(air, "REPEATS", 0, 12, 4);
        asked(air, "SUSPECT as no other repeats", 0, 13, 0);
    }
}
