import java.util.function.Consumer;

/**
 * Each refused call of promises 2 to 22, on new objects: the exception that is due (of several the one named first),
 * and that it changes nothing, neither what is answered at once nor what comes later.
 */
public final class RefusalsTest {
    private static final Class<?> ARGUMENT = IllegalArgumentException.class;
    private static final Class<?> STATE = IllegalStateException.class;
    private static final Class<?> INDEX = IndexOutOfBoundsException.class;
    private static final int LEAST = Integer.MIN_VALUE;
    private static final int MOST = Integer.MAX_VALUE;
    private static final Consumer<Sharedair> EMPTY = air -> { };
    private static final Consumer<Sharedair> BUSY = RefusalsTest::makeBusy;
    private static final Consumer<Sharedair> EIGHT = RefusalsTest::makeEight;
    private static final Consumer<Sharedair> LATE = air -> makeLate(air, 200);
    private static final Consumer<Sharedair> NEARLY_LATE = air -> makeLate(air, 199);
    private static final Check check = new Check();

    public static void main(String[] args) {
        readyAsTold();
        node();
        move();
        tune();
        send();
        sendAheadOfState();
        pass();
        passAheadOfState();
        exchange();
        bid();
        hears();
        ofNode();
        inQueue();
        route();
        air();
        delivered();
        would();
        chances();
        auction();
        check.end();
    }

    /** Nodes 0 to 2 in a line; 0 is sending and has a full QUEUE, 1 is a CHEAT, 2 has a WAIT; there are 10 BIDS. */
    private static void makeBusy(Sharedair air) {
        air.node(0, 0, 5, false);
        air.node(4, 0, 5, true);
        air.node(8, 0, 5, false);
        air.exchange(2);
        air.tune(1, 3, true);
        air.send(2, 1, 1);
        air.pass(1);
        for (int i = 0; i < 4; i++) {
            air.send(0, 1 + i % 2, 3);
        }
        for (int i = 0; i < 10; i++) {
            air.bid(i % 5, 1 + 6 * i, 100 + i);
        }
        air.knock();
        air.pass(1);
    }

    private static Sharedair made(Consumer<Sharedair> ready) {
        Sharedair air = new Sharedair();
        ready.accept(air);
        return air;
    }

    /** What the refusals below rest on. */
    private static void readyAsTold() {
        Sharedair busy = made(BUSY);
        check.same("row()", busy.row(), "T.w");
        check.same("QUEUE of 0", busy.ofNode(0, 4), 4);
        check.same("FRAMES sent by 0", busy.ofNode(0, 15), 4);
        check.same("BIDS", busy.air(9), 10);
        check.same("row() of 8", made(EIGHT).row(), ".......T");
        check.same("SLOT", made(LATE).air(0), 2000);
        check.same("SLOT", made(NEARLY_LATE).air(0), 1999);
    }

    private static void makeEight(Sharedair air) {
        for (int i = 0; i < 8; i++) {
            air.node(3 * i, 0, 4, i == 7);
        }
        air.exchange(2);
        air.send(7, 5, 3);
        air.send(0, 1, 1);
        air.pass(2);
    }

    private static void makeLate(Sharedair air, int last) {
        makeBusy(air);
        for (int i = 0; i < 9; i++) {
            air.pass(200);
        }
        air.pass(last - 2);
    }

    private static void refused(Consumer<Sharedair> ready, String what, Class<?> due, Consumer<Sharedair> call) {
        check.refusedOn(ready, what, due, call);
    }

    private static void node() {
        int[][] wrong = {{-1, 0, 1}, {30, 0, 1}, {0, -1, 1}, {0, 30, 1}, {0, 0, 0}, {0, 0, 43}, {LEAST, 0, 1},
            {MOST, 0, 1}, {0, LEAST, 1}, {0, MOST, 1}, {0, 0, LEAST}, {0, 0, MOST}, {-1, 30, 43}};
        for (int[] w : wrong) {
            refused(EMPTY, "node() of an empty country", ARGUMENT, air -> air.node(w[0], w[1], w[2], true));
            refused(BUSY, "node()", ARGUMENT, air -> air.node(w[0], w[1], w[2], false));
            refused(EIGHT, "the ninth node(), wrong too", ARGUMENT, air -> air.node(w[0], w[1], w[2], false));
        }
        refused(EIGHT, "the ninth node()", STATE, air -> air.node(0, 0, 1, false));
    }

    private static void move() {
        int[] none = {-1, 3, 8, LEAST, MOST};
        for (int n : none) {
            refused(BUSY, "move() of none", INDEX, air -> air.move(n, 1, 1));
            refused(BUSY, "move() of none outside", INDEX, air -> air.move(n, -1, 30));
        }
        int[][] outside = {{-1, 0}, {30, 0}, {0, -1}, {0, 30}, {LEAST, 0}, {0, MOST}};
        for (int[] place : outside) {
            refused(BUSY, "move() outside", ARGUMENT, air -> air.move(2, place[0], place[1]));
            refused(BUSY, "move() of a sender outside", ARGUMENT, air -> air.move(0, place[0], place[1]));
        }
        refused(BUSY, "move() of a sender", STATE, air -> air.move(0, 1, 1));
        refused(BUSY, "move() of a sender to its place", STATE, air -> air.move(0, 0, 0));
        refused(EIGHT, "move() of none of 8", INDEX, air -> air.move(8, 1, 1));
        refused(EIGHT, "move() of the last, sending", STATE, air -> air.move(7, 1, 1));
    }

    private static void tune() {
        int[] none = {-1, 3, 8, LEAST, MOST};
        for (int n : none) {
            refused(BUSY, "tune() of none", INDEX, air -> air.tune(n, 1, true));
            refused(BUSY, "tune() of none to no REACH", INDEX, air -> air.tune(n, 0, true));
        }
        int[] wrong = {0, 43, -1, LEAST, MOST};
        for (int reach : wrong) {
            refused(BUSY, "tune() to no REACH", ARGUMENT, air -> air.tune(2, reach, true));
            refused(BUSY, "tune() of a sender to no REACH", ARGUMENT, air -> air.tune(0, reach, true));
        }
        refused(BUSY, "tune() of a sender", STATE, air -> air.tune(0, 1, true));
        refused(BUSY, "tune() of a sender to its REACH", STATE, air -> air.tune(0, 5, false));
        refused(EIGHT, "tune() of none of 8", INDEX, air -> air.tune(8, 1, true));
    }

    private static void send() {
        int[] none = {-1, 3, 8, LEAST, MOST};
        for (int n : none) {
            refused(BUSY, "send() of none", INDEX, air -> air.send(n, 1, 1));
            refused(BUSY, "send() to none", INDEX, air -> air.send(1, n, 1));
            refused(BUSY, "send() of none to none", INDEX, air -> air.send(n, n, 1));
        }
        refused(BUSY, "send() to itself", ARGUMENT, air -> air.send(1, 1, 1));
        int[] wrong = {0, 4, -1, LEAST, MOST};
        for (int length : wrong) {
            refused(BUSY, "send() of no LENGTH", ARGUMENT, air -> air.send(1, 0, length));
        }
        refused(BUSY, "send() to a full QUEUE", STATE, air -> air.send(0, 1, 1));
    }

    private static void sendAheadOfState() {
        refused(BUSY, "send() to none, of no LENGTH", INDEX, air -> air.send(1, 3, 0));
        refused(BUSY, "send() of none, of no LENGTH", INDEX, air -> air.send(3, 1, 4));
        refused(BUSY, "send() to none, to a full QUEUE", INDEX, air -> air.send(0, 3, 1));
        refused(BUSY, "send() to none, of no LENGTH, to a full QUEUE", INDEX, air -> air.send(0, -1, 0));
        refused(BUSY, "send() to itself, to a full QUEUE", ARGUMENT, air -> air.send(0, 0, 1));
        refused(BUSY, "send() of no LENGTH, to a full QUEUE", ARGUMENT, air -> air.send(0, 1, 4));
    }

    private static void pass() {
        int[] wrong = {0, 201, -1, LEAST, MOST};
        for (int slots : wrong) {
            refused(EMPTY, "pass() of an empty country", ARGUMENT, air -> air.pass(slots));
            refused(BUSY, "pass()", ARGUMENT, air -> air.pass(slots));
        }
        refused(LATE, "pass(1) at 2000", STATE, air -> air.pass(1));
        refused(LATE, "pass(200) at 2000", STATE, air -> air.pass(200));
        refused(NEARLY_LATE, "pass(2) at 1999", STATE, air -> air.pass(2));
        refused(NEARLY_LATE, "pass(200) at 1999", STATE, air -> air.pass(200));
    }

    private static void passAheadOfState() {
        int[] wrong = {0, 201, -1, LEAST, MOST};
        for (int slots : wrong) {
            refused(LATE, "pass() at 2000, wrong too", ARGUMENT, air -> air.pass(slots));
            refused(NEARLY_LATE, "pass() at 1999, wrong too", ARGUMENT, air -> air.pass(slots));
        }
    }

    private static void exchange() {
        int[] wrong = {0, 11, -1, LEAST, MOST};
        for (int times : wrong) {
            refused(EMPTY, "exchange() of an empty country", ARGUMENT, air -> air.exchange(times));
            refused(BUSY, "exchange()", ARGUMENT, air -> air.exchange(times));
        }
    }

    private static void bid() {
        int[][] wrong = {{-1, 1, 1}, {5, 1, 1}, {0, 0, 1}, {0, 64, 1}, {0, 1, 0}, {0, 1, 1000}, {LEAST, 1, 1},
            {MOST, 1, 1}, {0, LEAST, 1}, {0, MOST, 1}, {0, 1, LEAST}, {0, 1, MOST}, {5, 64, 1000}};
        for (int[] w : wrong) {
            refused(EMPTY, "bid()", ARGUMENT, air -> air.bid(w[0], w[1], w[2]));
            refused(BUSY, "the eleventh bid(), wrong too", ARGUMENT, air -> air.bid(w[0], w[1], w[2]));
        }
        refused(BUSY, "the eleventh bid()", STATE, air -> air.bid(4, 63, 999));
    }

    private static void hears() {
        int[] none = {-1, 3, 8, LEAST, MOST};
        for (int n : none) {
            refused(BUSY, "hears() of none", INDEX, air -> air.hears(n, 0));
            refused(BUSY, "hears() for none", INDEX, air -> air.hears(0, n));
            refused(BUSY, "hears() of none for the same", INDEX, air -> air.hears(n, n));
        }
        refused(BUSY, "hears() for itself", ARGUMENT, air -> air.hears(0, 0));
        refused(EIGHT, "hears() for the ninth", INDEX, air -> air.hears(7, 8));
    }

    private static void ofNode() {
        int[] none = {-1, 3, 8, LEAST, MOST};
        for (int n : none) {
            refused(BUSY, "ofNode() of none", INDEX, air -> air.ofNode(n, 0));
            refused(BUSY, "ofNode() of none, of no what", INDEX, air -> air.ofNode(n, 16));
        }
        int[] wrong = {-1, 16, LEAST, MOST};
        for (int what : wrong) {
            refused(BUSY, "ofNode() of no what", ARGUMENT, air -> air.ofNode(0, what));
        }
    }

    private static void inQueue() {
        int[] none = {-1, 3, 8, LEAST, MOST};
        for (int n : none) {
            refused(BUSY, "inQueue() of none", INDEX, air -> air.inQueue(n, 0, 0));
            refused(BUSY, "inQueue() of none, below the first", INDEX, air -> air.inQueue(n, -1, 0));
            refused(BUSY, "inQueue() of none, of no what", INDEX, air -> air.inQueue(n, 0, 5));
        }
        int[] below = {-1, LEAST};
        for (int nth : below) {
            refused(BUSY, "inQueue() below the first", ARGUMENT, air -> air.inQueue(0, nth, 0));
            refused(BUSY, "inQueue() below the first of none", ARGUMENT, air -> air.inQueue(1, nth, 0));
        }
        int[] wrong = {-1, 5, LEAST, MOST};
        for (int what : wrong) {
            refused(BUSY, "inQueue() of no what", ARGUMENT, air -> air.inQueue(0, 0, what));
            refused(BUSY, "inQueue() of no what behind the last", ARGUMENT, air -> air.inQueue(0, 4, what));
            refused(BUSY, "inQueue() of no what, empty", ARGUMENT, air -> air.inQueue(1, 0, what));
        }
    }

    private static void route() {
        int[] none = {-1, 3, 8, LEAST, MOST};
        for (int n : none) {
            refused(BUSY, "route() of none", INDEX, air -> air.route(n, 0, 0));
            refused(BUSY, "route() to none", INDEX, air -> air.route(0, n, 0));
            refused(BUSY, "route() of none to the same", INDEX, air -> air.route(n, n, 0));
            refused(BUSY, "route() to none, of no what", INDEX, air -> air.route(0, n, 4));
        }
        refused(BUSY, "route() to itself", ARGUMENT, air -> air.route(1, 1, 0));
        int[] wrong = {-1, 4, LEAST, MOST};
        for (int what : wrong) {
            refused(BUSY, "route() of no what", ARGUMENT, air -> air.route(0, 1, what));
            refused(BUSY, "route() to itself, of no what", ARGUMENT, air -> air.route(0, 0, what));
        }
    }

    private static void air() {
        int[] wrong = {-1, 13, LEAST, MOST};
        for (int what : wrong) {
            refused(EMPTY, "air() of an empty country", ARGUMENT, air -> air.air(what));
            refused(BUSY, "air()", ARGUMENT, air -> air.air(what));
        }
    }

    /** Node 0 has sent FRAMES of the NUMBERS 0 to 3, node 1 none. */
    private static void delivered() {
        int[] none = {-1, 3, 8, LEAST, MOST};
        for (int n : none) {
            refused(BUSY, "delivered() of none", INDEX, air -> air.delivered(n, 0));
        }
        int[] wrong = {-1, 4, LEAST, MOST};
        for (int number : wrong) {
            refused(BUSY, "delivered() of no such NUMBER", INDEX, air -> air.delivered(0, number));
        }
        refused(BUSY, "delivered() of one that never sent", INDEX, air -> air.delivered(1, 0));
    }

    private static void would() {
        int[] none = {-1, 3, 8, LEAST, MOST};
        for (int n : none) {
            refused(BUSY, "would() of none", INDEX, air -> air.would(1, n));
            refused(BUSY, "would() of none, of no set", INDEX, air -> air.would(8, n));
        }
        int[] wrong = {8, 9, -1, 1 << 30, LEAST, MOST};
        for (int senders : wrong) {
            refused(BUSY, "would() of no set", ARGUMENT, air -> air.would(senders, 1));
        }
        refused(BUSY, "would() of the node itself", ARGUMENT, air -> air.would(2, 1));
        refused(BUSY, "would() of all", ARGUMENT, air -> air.would(7, 1));
        refused(EIGHT, "would() of the ninth", ARGUMENT, air -> air.would(256, 1));
        refused(EIGHT, "would() of all and the ninth", ARGUMENT, air -> air.would(510, 0));
        refused(EIGHT, "would() of all 8", ARGUMENT, air -> air.would(255, 0));
    }

    private static void chances() {
        int[] wrongMany = {0, 21, -1, LEAST, MOST};
        for (int many : wrongMany) {
            refused(BUSY, "throughput() of so many", ARGUMENT, air -> air.throughput(many, 50));
            refused(BUSY, "bestChance() of so many", ARGUMENT, air -> air.bestChance(many));
        }
        int[] wrongChance = {-1, 101, LEAST, MOST};
        for (int chance : wrongChance) {
            refused(BUSY, "throughput() by such a chance", ARGUMENT, air -> air.throughput(2, chance));
            refused(BUSY, "throughput() of 0 by such a chance", ARGUMENT, air -> air.throughput(0, chance));
        }
    }

    private static void auction() {
        int[] wrong = {-1, 7, LEAST, MOST};
        for (int what : wrong) {
            refused(EMPTY, "auction() without BIDS", ARGUMENT, air -> air.auction(what));
            refused(BUSY, "auction()", ARGUMENT, air -> air.auction(what));
        }
    }
}
