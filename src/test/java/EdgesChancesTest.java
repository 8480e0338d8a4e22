/** The edges in the document's part 5 and of promises 20 and 21: 1 to 20 NODES, 0 to 100 hundredths. */
public final class EdgesChancesTest {
    private static final Class<?> ARGUMENT = IllegalArgumentException.class;
    private static final Check check = new Check();
    private static final Sharedair AIR = new Sharedair();

    public static void main(String[] args) {
        throughputIsOfOneToTwenty();
        chanceIsZeroToAHundred();
        aloneNothingIsMultiplied();
        multipliedOneTimeLessThanNodes();
        bestChanceIsOfOneToTwenty();
        bestChanceIsTheGreatest();
        check.end();
    }

    private static void throughputIsOfOneToTwenty() {
        check.refused("throughput(0, 50)", ARGUMENT, AIR, () -> AIR.throughput(0, 50));
        check.refused("throughput(21, 50)", ARGUMENT, AIR, () -> AIR.throughput(21, 50));
        check.same("throughput(1, 50)", AIR.throughput(1, 50), 0.5);
        check.same("throughput(20, 50)", AIR.throughput(20, 50), 10.0 / (1 << 19));
    }

    private static void chanceIsZeroToAHundred() {
        check.refused("throughput(2, -1)", ARGUMENT, AIR, () -> AIR.throughput(2, -1));
        check.refused("throughput(2, 101)", ARGUMENT, AIR, () -> AIR.throughput(2, 101));
        check.same("throughput(2, 0)", AIR.throughput(2, 0), 0.0);
        check.same("throughput(2, 100)", AIR.throughput(2, 100), 0.0);
        check.same("throughput(20, 0)", AIR.throughput(20, 0), 0.0);
        check.same("throughput(20, 100)", AIR.throughput(20, 100), 0.0);
        check.same("throughput(2, 1)", AIR.throughput(2, 1), 2 / 100.0 * (99 / 100.0));
        check.same("throughput(2, 99)", AIR.throughput(2, 99), 198 / 100.0 * (1 / 100.0));
    }

    private static void aloneNothingIsMultiplied() {
        check.same("throughput(1, 0)", AIR.throughput(1, 0), 0.0);
        check.same("throughput(1, 1)", AIR.throughput(1, 1), 0.01);
        check.same("throughput(1, 100)", AIR.throughput(1, 100), 1.0);
    }

    private static void multipliedOneTimeLessThanNodes() {
        double due = 20 * 7 / 100.0;
        for (int i = 0; i < 19; i++) {
            due = due * (93 / 100.0);
        }
        check.same("throughput(20, 7)", AIR.throughput(20, 7), due);
        check.same("throughput(3, 7)", AIR.throughput(3, 7), 21 / 100.0 * (93 / 100.0) * (93 / 100.0));
    }

    private static void bestChanceIsOfOneToTwenty() {
        check.refused("bestChance(0)", ARGUMENT, AIR, () -> AIR.bestChance(0));
        check.refused("bestChance(21)", ARGUMENT, AIR, () -> AIR.bestChance(21));
        check.same("bestChance(1)", AIR.bestChance(1), 100);
        check.same("bestChance(20)", AIR.bestChance(20), 5);
    }

    private static void bestChanceIsTheGreatest() {
        check.same("bestChance(2)", AIR.bestChance(2), 50);
        check.same("bestChance(3)", AIR.bestChance(3), 33);
        check.same("bestChance(7)", AIR.bestChance(7), 14);
        check.same("bestChance(19)", AIR.bestChance(19), 5);
    }
}
