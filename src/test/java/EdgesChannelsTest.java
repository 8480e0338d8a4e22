/** The edges in the document's part 6 and of promises 8, 9 and 22: BIDS, WINNERS, what is PAID. */
public final class EdgesChannelsTest {
    private static final Class<?> ARGUMENT = IllegalArgumentException.class;
    private static final Class<?> STATE = IllegalStateException.class;
    private static final Check check = new Check();

    public static void main(String[] args) {
        nothingWithoutBids();
        tenBidsNumberedFromZero();
        bidsGoOnFromZeroOnceSold();
        soldBidsLeaveNothing();
        bidderIsZeroToFour();
        channelsAreOneToSixtyThree();
        priceIsOneToNineHundredNinetyNine();
        firstAndLastChannelAreShared();
        noChannelTogether();
        noBidderTogether();
        firstAndLastBidWin();
        fiveWinnersOfTen();
        lonelyWinnerPaysNothing();
        rivalOfTheSamePrice();
        ownBidsDoNotRaiseWhatIsPaid();
        allBidsOfTheBidderAreLeftOut();
        equalWinnersAreTheSmallestSet();
        paidEverGrows();
        auctionOfZeroToSix();
        check.end();
    }

    private static Sharedair with(int... bids) {
        Sharedair air = new Sharedair();
        for (int i = 0; i + 2 < bids.length; i += 3) {
            check.same("bid()", air.bid(bids[i], bids[i + 1], bids[i + 2]), i / 3);
        }
        return air;
    }

    private static void auction(Sharedair air, int... due) {
        for (int what = 0; what <= 6; what++) {
            check.same("auction(" + what + ")", air.auction(what), due[what]);
        }
    }

    private static void nothingWithoutBids() {
        Sharedair air = new Sharedair();
        auction(air, 0, 0, 0, 0, 0, 0, 0);
        check.same("BIDS", air.air(9), 0);
        check.same("sell()", air.sell(), 0);
        check.same("PAID", air.air(10), 0);
        auction(air, 0, 0, 0, 0, 0, 0, 0);
    }

    private static void tenBidsNumberedFromZero() {
        Sharedair air = new Sharedair();
        for (int i = 0; i < 10; i++) {
            check.same("BIDS", air.air(9), i);
            check.same("bid()", air.bid(i % 5, 63, 990 + i), i);
        }
        check.refused("the eleventh bid()", STATE, air, () -> air.bid(0, 63, 999));
        check.same("BIDS", air.air(9), 10);
        auction(air, 512, 999, 0, 0, 0, 0, 998);
    }

    private static void bidsGoOnFromZeroOnceSold() {
        Sharedair air = new Sharedair();
        for (int sold = 0; sold < 3; sold++) {
            for (int i = 0; i < 10; i++) {
                check.same("bid()", air.bid(i % 5, 63, 990 + i), i);
            }
            check.same("sell()", air.sell(), 998);
            check.same("BIDS once sold", air.air(9), 0);
            auction(air, 0, 0, 0, 0, 0, 0, 0);
        }
        check.same("PAID", air.air(10), 3 * 998);
    }

    /** Of what was bid ahead nothing is left: neither what would be without BIDDER 0, nor which BIDS went together. */
    private static void soldBidsLeaveNothing() {
        Sharedair air = with(0, 1, 50, 1, 1, 30, 2, 2, 20);
        air.sell();
        air.bid(0, 1, 9);
        auction(air, 1, 9, 0, 0, 0, 0, 0);
        air.bid(0, 2, 8);
        air.bid(1, 4, 7);
        auction(air, 5, 16, 0, 0, 0, 0, 0);
        air.sell();
        air.bid(2, 3, 5);
        air.bid(3, 1, 4);
        air.bid(4, 2, 3);
        auction(air, 6, 7, 0, 0, 0, 2, 1);
    }

    private static void bidderIsZeroToFour() {
        Sharedair air = new Sharedair();
        check.refused("bid() of BIDDER -1", ARGUMENT, air, () -> air.bid(-1, 1, 1));
        check.refused("bid() of BIDDER 5", ARGUMENT, air, () -> air.bid(5, 1, 1));
        check.same("bid() of BIDDER 0", air.bid(0, 1, 1), 0);
        check.same("bid() of BIDDER 4", air.bid(4, 2, 1), 1);
    }

    private static void channelsAreOneToSixtyThree() {
        Sharedair air = new Sharedair();
        check.refused("bid() for no CHANNELS", ARGUMENT, air, () -> air.bid(0, 0, 1));
        check.refused("bid() for CHANNEL 6", ARGUMENT, air, () -> air.bid(0, 64, 1));
        check.refused("bid() for -1", ARGUMENT, air, () -> air.bid(0, -1, 1));
        check.same("bid() for CHANNEL 0", air.bid(0, 1, 1), 0);
        check.same("bid() for all CHANNELS", air.bid(0, 63, 1), 1);
    }

    private static void priceIsOneToNineHundredNinetyNine() {
        Sharedair air = new Sharedair();
        check.refused("bid() of PRICE 0", ARGUMENT, air, () -> air.bid(0, 1, 0));
        check.refused("bid() of PRICE 1000", ARGUMENT, air, () -> air.bid(0, 1, 1000));
        check.same("bid() of PRICE 1", air.bid(0, 1, 1), 0);
        auction(air, 1, 1, 0, 0, 0, 0, 0);
        check.same("bid() of PRICE 999", air.bid(1, 1, 999), 1);
        auction(air, 2, 999, 0, 1, 0, 0, 0);
    }

    private static void firstAndLastChannelAreShared() {
        auction(with(0, 3, 10, 1, 5, 20), 2, 20, 0, 10, 0, 0, 0);
        auction(with(0, 48, 10, 1, 40, 20), 2, 20, 0, 10, 0, 0, 0);
        auction(with(0, 31, 10, 1, 32, 20), 3, 30, 0, 0, 0, 0, 0);
    }

    private static void noChannelTogether() {
        auction(with(0, 7, 10, 1, 56, 20, 2, 8, 15), 3, 30, 0, 15, 0, 0, 0);
        auction(with(0, 7, 10, 1, 12, 20, 2, 56, 15), 5, 25, 5, 0, 10, 0, 0);
    }

    private static void noBidderTogether() {
        auction(with(3, 1, 10, 3, 2, 20), 2, 20, 0, 0, 0, 0, 0);
        auction(with(3, 1, 10, 2, 2, 20), 3, 30, 0, 0, 0, 0, 0);
    }

    private static void firstAndLastBidWin() {
        Sharedair air = with(0, 7, 500, 1, 63, 1, 1, 63, 2, 1, 63, 3, 1, 63, 4, 1, 63, 5, 1, 63, 6, 1, 63, 7, 1, 63, 8,
            4, 56, 400);
        auction(air, 513, 900, 0, 0, 0, 0, 0);
    }

    private static void fiveWinnersOfTen() {
        Sharedair air = new Sharedair();
        for (int i = 0; i < 10; i++) {
            air.bid(i % 5, i < 5 ? 63 : 1 << i - 5, 999);
        }
        auction(air, 992, 4995, 0, 0, 0, 0, 0);
        check.same("sell()", air.sell(), 0);
    }

    private static void lonelyWinnerPaysNothing() {
        Sharedair air = with(2, 63, 999);
        auction(air, 1, 999, 0, 0, 0, 0, 0);
        check.same("sell()", air.sell(), 0);
    }

    private static void rivalOfTheSamePrice() {
        Sharedair air = with(4, 1, 50, 0, 1, 50);
        auction(air, 1, 50, 0, 0, 0, 0, 50);
        check.same("isSound()", air.isSound(), true);
        check.same("sell()", air.sell(), 50);
    }

    private static void ownBidsDoNotRaiseWhatIsPaid() {
        auction(with(0, 1, 50, 0, 1, 49, 1, 1, 10), 1, 50, 10, 0, 0, 0, 0);
    }

    private static void allBidsOfTheBidderAreLeftOut() {
        auction(with(0, 3, 60, 0, 1, 55, 1, 1, 10, 2, 2, 20), 10, 75, 10, 0, 5, 0, 0);
    }

    /** The set 1 (BID 0) is worth what the set 6 (BIDS 1 and 2) is; as the set 4 it comes behind the set 3. */
    private static void equalWinnersAreTheSmallestSet() {
        auction(with(0, 3, 60, 1, 1, 30, 2, 2, 30), 1, 60, 60, 0, 0, 0, 0);
        auction(with(1, 1, 30, 2, 2, 30, 0, 3, 60), 3, 60, 0, 30, 30, 0, 0);
        auction(with(0, 1, 7, 1, 1, 7, 2, 1, 7), 1, 7, 7, 0, 0, 0, 0);
    }

    private static void paidEverGrows() {
        Sharedair air = with(0, 1, 50, 1, 1, 30);
        check.same("PAID ahead", air.air(10), 0);
        check.same("sell()", air.sell(), 30);
        air.bid(0, 1, 5);
        air.bid(1, 1, 6);
        check.same("sell()", air.sell(), 5);
        check.same("PAID", air.air(10), 35);
    }

    private static void auctionOfZeroToSix() {
        Sharedair air = with(4, 1, 50, 0, 1, 49);
        check.refused("auction(-1)", ARGUMENT, air, () -> air.auction(-1));
        check.refused("auction(7)", ARGUMENT, air, () -> air.auction(7));
        check.same("auction(0)", air.auction(0), 1);
        check.same("auction(6)", air.auction(6), 49);
    }
}
