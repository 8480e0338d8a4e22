/** The edges in the document's part 7 and of promises 10 and 23: COVER, and who knocks at the MAST. */
public final class EdgesMastsTest {
    private static final Check check = new Check();

    public static void main(String[] args) {
        coverWithoutNodes();
        coverOfOne();
        coverUpToTheReach();
        whoHearsIsCovered();
        eightAlone();
        lastOfEightReachesAll();
        twoOfEightAreFewest();
        equalCoversAreTheSmallestSet();
        everyKnockIsRefused();
        check.end();
    }

    private static Sharedair row(int nodes, int apart, int reach) {
        Sharedair air = new Sharedair();
        for (int i = 0; i < nodes; i++) {
            air.node(i * apart, 0, reach, false);
        }
        return air;
    }

    private static void coverWithoutNodes() {
        check.same("cover() without NODES", new Sharedair().cover(), 0);
    }

    private static void coverOfOne() {
        check.same("cover() of one", row(1, 1, 1).cover(), 1);
    }

    private static void coverUpToTheReach() {
        check.same("cover() at FAR 16 of REACH 4", row(2, 4, 4).cover(), 1);
        check.same("cover() at FAR 25 of REACH 4", row(2, 5, 4).cover(), 3);
    }

    private static void whoHearsIsCovered() {
        Sharedair air = row(2, 5, 4);
        air.tune(1, 5, false);
        check.same("hears(0, 1)", air.hears(0, 1), true);
        check.same("cover() by 1, which 0 hears", air.cover(), 2);
        air.tune(1, 4, false);
        air.tune(0, 5, false);
        check.same("cover() by 0, which 1 hears", air.cover(), 1);
    }

    private static void eightAlone() {
        check.same("cover() of 8 alone", row(8, 4, 3).cover(), 255);
    }

    private static void lastOfEightReachesAll() {
        Sharedair air = row(8, 4, 3);
        air.tune(7, 28, false);
        check.same("cover() by 7 at its REACH", air.cover(), 128);
        air.tune(7, 27, false);
        check.same("cover() by 7 and 0", air.cover(), 129);
    }

    /** 2 reaches 0 to 4; 5 reaches 3 to 7, and 6 reaches 4 to 7. */
    private static void twoOfEightAreFewest() {
        Sharedair air = row(8, 4, 3);
        air.tune(2, 8, false);
        air.tune(6, 8, false);
        check.same("cover() by 2 and 6", air.cover(), 4 + 64);
        air.tune(5, 8, false);
        check.same("cover() by 2 and 5, the smaller set", air.cover(), 4 + 32);
        air.tune(2, 7, false);
        check.same("cover() as 2 does not reach 0 and 4", air.cover(), 1 + 4 + 32);
    }

    private static void equalCoversAreTheSmallestSet() {
        Sharedair air = row(3, 1, 2);
        check.same("cover() by any of 3", air.cover(), 1);
        Sharedair four = row(4, 4, 4);
        check.same("cover() by two of 4", four.cover(), 5);
    }

    private static void everyKnockIsRefused() {
        Sharedair air = new Sharedair();
        check.same("REFUSED", air.air(11), 0);
        for (int i = 1; i <= 300; i++) {
            check.same("knock()", air.knock(), i);
        }
        check.same("REFUSED", air.air(11), 300);
    }
}
