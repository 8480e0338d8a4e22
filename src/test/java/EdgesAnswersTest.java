import java.math.BigInteger;
import java.util.ArrayList;
import java.util.List;

/** The edges of promises 1, 12, 15, 18, 19, 24 and 25: the empty country, what is asked, the checksum. */
public final class EdgesAnswersTest {
    private static final Class<?> ARGUMENT = IllegalArgumentException.class;
    private static final Class<?> INDEX = IndexOutOfBoundsException.class;
    private static final Check check = new Check();

    public static void main(String[] args) {
        emptyCountryHasNoNodes();
        emptyCountryAnswers();
        emptyCountryGoesOn();
        ofNodeAsksZeroToFifteen();
        airAsksZeroToTwelve();
        rowOfNoneAndOfEight();
        rowTakesTheFirstThatHolds();
        wouldOfNoneAndOfAll();
        wouldOfNoSet();
        soundAtTheEdges();
        checksumOfTheEmptyCountry();
        checksumWrapsAround();
        checksumOfEight();
        fairnessIsCutInTheChecksum();
        check.end();
    }

    private static void emptyCountryHasNoNodes() {
        Sharedair air = new Sharedair();
        check.refused("move()", INDEX, air, () -> air.move(0, 0, 0));
        check.refused("tune()", INDEX, air, () -> air.tune(0, 1, false));
        check.refused("send()", INDEX, air, () -> air.send(0, 1, 1));
        check.refused("hears()", INDEX, air, () -> air.hears(0, 1));
        check.refused("ofNode()", INDEX, air, () -> air.ofNode(0, 0));
        check.refused("inQueue()", INDEX, air, () -> air.inQueue(0, 0, 0));
        check.refused("route()", INDEX, air, () -> air.route(0, 1, 0));
        check.refused("delivered()", INDEX, air, () -> air.delivered(0, 0));
        check.refused("would()", INDEX, air, () -> air.would(0, 0));
    }

    private static void emptyCountryAnswers() {
        Sharedair air = new Sharedair();
        for (int what = 0; what <= 12; what++) {
            check.same("air(" + what + ")", air.air(what), what == 2 ? 41 : 0);
        }
        for (int what = 0; what <= 6; what++) {
            check.same("auction(" + what + ")", air.auction(what), 0);
        }
        check.same("fairness()", air.fairness(), 1.0);
        check.same("row()", air.row(), "");
        check.same("cover()", air.cover(), 0);
        check.same("isSound()", air.isSound(), true);
    }

    private static void emptyCountryGoesOn() {
        Sharedair air = new Sharedair();
        check.same("pass()", air.pass(200), 200);
        check.same("exchange()", air.exchange(1), 0);
        check.same("sell()", air.sell(), 0);
        check.same("knock()", air.knock(), 1);
        check.same("row()", air.row(), "");
        check.same("node()", air.node(0, 0, 1, false), 0);
        check.same("SLOT", air.air(0), 200);
    }

    private static void ofNodeAsksZeroToFifteen() {
        Sharedair air = new Sharedair();
        air.node(3, 4, 5, true);
        air.node(6, 8, 5, false);
        air.exchange(1);
        air.send(0, 1, 3);
        air.send(0, 1, 1);
        air.pass(1);
        int[] due = {3, 4, 5, 1, 2, 0, 0, 2, 1, 1, 1, 0, 0, 0, 2, 2};
        for (int what = 0; what <= 15; what++) {
            check.same("ofNode(0, " + what + ")", air.ofNode(0, what), due[what]);
        }
        check.same("ofNode(1, 3)", air.ofNode(1, 3), 0);
        check.refused("ofNode(0, -1)", ARGUMENT, air, () -> air.ofNode(0, -1));
        check.refused("ofNode(0, 16)", ARGUMENT, air, () -> air.ofNode(0, 16));
        check.refused("ofNode(-1, 0)", INDEX, air, () -> air.ofNode(-1, 0));
        check.refused("ofNode(2, 0)", INDEX, air, () -> air.ofNode(2, 0));
    }

    private static void airAsksZeroToTwelve() {
        Sharedair air = EdgesSlotsTest.deafPair();
        air.send(0, 1, 1);
        air.pass(5);
        air.send(1, 0, 3);
        air.bid(0, 1, 9);
        air.bid(1, 1, 8);
        air.sell();
        air.bid(0, 1, 7);
        air.knock();
        air.pass(1);
        int[] due = {6, 2, 335, 1, 1, 1, 0, 2, 8, 1, 8, 1, 0};
        for (int what = 0; what <= 12; what++) {
            check.same("air(" + what + ")", air.air(what), due[what]);
        }
        check.refused("air(-1)", ARGUMENT, air, () -> air.air(-1));
        check.refused("air(13)", ARGUMENT, air, () -> air.air(13));
    }

    private static void rowOfNoneAndOfEight() {
        Sharedair air = new Sharedair();
        StringBuilder due = new StringBuilder();
        for (int i = 0; i < 8; i++) {
            check.same("row()", air.row(), due.toString());
            air.node(0, 0, 1, false);
            due.append('.');
        }
        check.same("row() of 8", air.row(), "........");
        air.send(7, 0, 1);
        air.send(0, 7, 1);
        check.same("row() of 8", air.row(), "q......q");
    }

    /** Who sends or waits has something in its QUEUE too; a WAIT of 0 is none. */
    private static void rowTakesTheFirstThatHolds() {
        Sharedair air = EdgesSlotsTest.deafPair();
        air.send(0, 1, 2);
        air.send(0, 1, 2);
        check.same("row() ahead", air.row(), "q.");
        air.pass(1);
        check.same("row() as it sends", air.row(), "T.");
        air.pass(1);
        check.same("row() with a WAIT", air.row(), "w.");
        air.pass(air.ofNode(0, 5) - 1);
        check.same("row() with a WAIT of 1", air.row(), "w.");
        air.pass(1);
        check.same("row() with a WAIT of 0", air.row(), "q.");
        air.pass(1);
        check.same("row() as it sends again", air.row(), "T.");
    }

    private static void wouldOfNoneAndOfAll() {
        Sharedair air = new Sharedair();
        air.node(0, 0, 42, false);
        check.same("would() of none, alone", air.would(0, 0), -1);
        for (int i = 1; i < 8; i++) {
            air.node(0, i, 42, false);
        }
        check.same("would() of none", air.would(0, 7), -1);
        check.same("would() of all others, FAR 1 and 4", air.would(254, 0), 1);
        check.same("would() of all others, FAR 1 and 1", air.would(255 - 8, 3), -1);
        check.same("would() of the last alone", air.would(128, 0), 7);
        check.same("would() of the first alone", air.would(1, 7), 0);
    }

    private static void wouldOfNoSet() {
        Sharedair air = new Sharedair();
        air.node(0, 0, 42, false);
        air.node(1, 0, 42, false);
        check.same("would() of the last that is there", air.would(2, 0), 1);
        check.refused("would() of one more than there are", ARGUMENT, air, () -> air.would(4, 0));
        check.refused("would() of -1", ARGUMENT, air, () -> air.would(-1, 0));
        check.refused("would() with the node itself", ARGUMENT, air, () -> air.would(1, 0));
        check.refused("would() with the node itself and another", ARGUMENT, air, () -> air.would(3, 0));
        check.refused("would() of the node -1", INDEX, air, () -> air.would(0, -1));
        check.refused("would() of one behind the last", INDEX, air, () -> air.would(0, 2));
    }

    private static void soundAtTheEdges() {
        Sharedair air = EdgesSlotsTest.deafPair();
        for (int i = 0; i < 4; i++) {
            air.send(0, 1, 3);
        }
        check.same("isSound() with a full QUEUE", air.isSound(), true);
        air.pass(1);
        check.same("isSound() as it sends", air.isSound(), true);
        while (air.ofNode(0, 6) < 4) {
            air.pass(1);
        }
        check.same("isSound() with 4 TRIES", air.isSound(), true);
        for (int i = 0; i < 10; i++) {
            air.bid(i % 5, 1 + i, 999);
        }
        check.same("isSound() with 10 BIDS", air.isSound(), true);
        for (int i = 0; i < 9; i++) {
            air.pass(200);
        }
        air.pass(2000 - air.air(0));
        check.same("isSound() at 2000", air.isSound(), true);
        Sharedair circle = RoutesTest.circle();
        circle.exchange(5);
        check.same("COST", circle.route(3, 2, 0), 8);
        check.same("isSound() with COST 8", circle.isSound(), true);
    }

    /** The values that the checksum is of, in their order. */
    private static List<Integer> values(Sharedair air) {
        List<Integer> values = new ArrayList<>();
        int nodes = air.air(1);
        for (int what = 0; what <= 12; what++) {
            values.add(air.air(what));
        }
        for (int node = 0; node < nodes; node++) {
            for (int what = 0; what <= 15; what++) {
                values.add(air.ofNode(node, what));
            }
            for (int what = 0; what <= 4; what++) {
                values.add(air.inQueue(node, 0, what));
            }
            for (int other = 0; other < nodes; other++) {
                for (int what = 0; what <= 3 && other != node; what++) {
                    values.add(air.route(node, other, what));
                }
            }
        }
        values.add((int) (4096 * air.fairness()));
        for (int what = 0; what <= 6; what++) {
            values.add(air.auction(what));
        }
        values.add(air.cover());
        values.add(air.isSound() ? 1 : 0);
        return values;
    }

    /** The checksum as it would be without an end to its digits. */
    private static BigInteger unbounded(List<Integer> values) {
        BigInteger d = BigInteger.valueOf(7603);
        for (int v : values) {
            d = d.multiply(BigInteger.valueOf(31)).add(BigInteger.valueOf(v));
        }
        return d;
    }

    private static void checksumOfTheEmptyCountry() {
        check.same("digest()", new Sharedair().digest(), -2881467814888641897L);
    }

    private static void checksumWrapsAround() {
        Sharedair air = new Sharedair();
        int negative = 0;
        for (int i = 0; i < 10; i++) {
            BigInteger due = unbounded(values(air));
            check.same("more than 64 bits", due.bitLength() > 64, true);
            check.same("digest()", air.digest(), due.longValue());
            negative += air.digest() < 0 ? 1 : 0;
            air.pass(1);
        }
        check.same("digests below 0 and above", negative > 0 && negative < 10, true);
    }

    private static void checksumOfEight() {
        Sharedair air = new Sharedair();
        for (int i = 0; i < 8; i++) {
            air.node(3 * i, i, 4, i == 5);
        }
        air.exchange(3);
        for (int i = 0; i < 8; i++) {
            air.send(i, 7 - i, 1 + i % 3);
        }
        air.pass(4);
        air.bid(0, 3, 70);
        air.bid(1, 1, 40);
        check.same("digest() of 8", air.digest(), unbounded(values(air)).longValue());
    }

    private static void fairnessIsCutInTheChecksum() {
        Sharedair air = EdgesSlotsTest.line(3);
        air.send(0, 1, 1);
        air.pass(1);
        List<Integer> values = values(air);
        check.same("4096 times a third, cut", values.get(values.size() - 10), 1365);
        check.same("digest()", air.digest(), unbounded(values).longValue());
        air.send(1, 0, 1);
        air.pass(1);
        values = values(air);
        check.same("4096 times two thirds, cut", values.get(values.size() - 10), 2730);
        check.same("digest()", air.digest(), unbounded(values).longValue());
    }
}
