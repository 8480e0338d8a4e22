/** Promises 8, 9, 10 and 22: bids for channels, what they pay, and who knocks at the mast. */
public final class MarketTest {
    private static final Class<?> ARGUMENT = IllegalArgumentException.class;
    private static final Class<?> STATE = IllegalStateException.class;
    private static final Check check = new Check();

    public static void main(String[] args) {
        winnersPayWhatOthersLose();
        oneBidOfABidder();
        smallestOfEqualSetsWins();
        sellForgetsBids();
        refuses();
        eleventhBidIsRefused();
        knocksAreCounted();
        check.end();
    }

    private static void auction(Sharedair air, int... due) {
        for (int what = 0; what < due.length; what++) {
            check.same("auction(" + what + ")", air.auction(what), due[what]);
        }
    }

    private static void winnersPayWhatOthersLose() {
        Sharedair air = new Sharedair();
        auction(air, 0, 0, 0, 0, 0, 0, 0);
        check.same("bid", air.bid(0, 3, 50), 0);
        auction(air, 1, 50, 0, 0, 0, 0, 0);
        check.same("bid", air.bid(1, 1, 30), 1);
        auction(air, 1, 50, 30, 0, 0, 0, 0);
        check.same("bid", air.bid(2, 2, 30), 2);
        auction(air, 6, 60, 0, 20, 20, 0, 0);
        check.same("air(9)", air.air(9), 3);
        check.same("isSound()", air.isSound(), true);
    }

    private static void oneBidOfABidder() {
        Sharedair air = new Sharedair();
        air.bid(4, 1, 999);
        air.bid(4, 32, 998);
        auction(air, 1, 999, 0, 0, 0, 0, 0);
        air.bid(3, 1, 10);
        auction(air, 6, 1008, 0, 0, 0, 1, 0);
        air.bid(0, 63, 20);
        auction(air, 6, 1008, 0, 0, 0, 1, 10);
    }

    private static void smallestOfEqualSetsWins() {
        Sharedair air = new Sharedair();
        air.bid(0, 3, 60);
        air.bid(1, 1, 30);
        air.bid(2, 2, 30);
        auction(air, 1, 60, 60, 0, 0, 0, 0);

        Sharedair other = new Sharedair();
        other.bid(1, 1, 30);
        other.bid(2, 2, 30);
        other.bid(0, 3, 60);
        auction(other, 3, 60, 0, 30, 30, 0, 0);
    }

    private static void sellForgetsBids() {
        Sharedair air = new Sharedair();
        check.same("sell() without bids", air.sell(), 0);
        air.bid(0, 3, 50);
        air.bid(1, 1, 30);
        air.bid(2, 2, 30);
        check.same("sell()", air.sell(), 40);
        check.same("air(9)", air.air(9), 0);
        check.same("air(10)", air.air(10), 40);
        auction(air, 0, 0, 0, 0, 0, 0, 0);
        check.same("bid", air.bid(1, 3, 7), 0);
        check.same("bid", air.bid(2, 3, 8), 1);
        auction(air, 2, 8, 0, 0, 7, 0, 0);
        check.same("sell()", air.sell(), 7);
        check.same("air(10)", air.air(10), 47);
        air.bid(0, 1, 1);
        air.bid(4, 2, 20);
        air.bid(2, 2, 15);
        air.bid(1, 1, 1);
        auction(air, 3, 21, 1, 0, 0, 0, 15);
        check.same("sell() with the first and the last bidder", air.sell(), 16);
        check.same("air(10)", air.air(10), 63);
    }

    private static void refuses() {
        Sharedair air = new Sharedair();
        int[][] wrong = {{-1, 1, 1}, {5, 1, 1}, {0, 0, 1}, {0, 64, 1}, {0, -1, 1}, {0, 1, 0}, {0, 1, 1000},
            {Integer.MIN_VALUE, 1, 1}, {0, Integer.MAX_VALUE, 1}, {0, 1, Integer.MIN_VALUE}};
        for (int[] w : wrong) {
            check.refused("bid", ARGUMENT, air, () -> air.bid(w[0], w[1], w[2]));
        }
        check.refused("auction", ARGUMENT, air, () -> air.auction(-1));
        check.refused("auction", ARGUMENT, air, () -> air.auction(7));
        check.same("air(9)", air.air(9), 0);
    }

    private static void eleventhBidIsRefused() {
        Sharedair air = new Sharedair();
        for (int i = 0; i < 10; i++) {
            check.same("bid", air.bid(i % 5, 1 << i % 6, 100 + i), i);
        }
        check.refused("eleventh bid", STATE, air, () -> air.bid(0, 1, 1));
        check.refused("eleventh bid at a wrong price", ARGUMENT, air, () -> air.bid(0, 1, 0));
        check.same("air(9)", air.air(9), 10);
        check.same("auction(1)", air.auction(1), 105 + 106 + 107 + 108 + 109);
    }

    private static void knocksAreCounted() {
        Sharedair air = new Sharedair();
        check.same("knock()", air.knock(), 1);
        check.same("knock()", air.knock(), 2);
        check.same("air(11)", air.air(11), 2);
    }
}
