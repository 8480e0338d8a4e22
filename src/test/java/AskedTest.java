/** Promises 15, 17, 19, 20, 21 and 23: counts, fairness, suspects, chances, what a node would get, the cover. */
public final class AskedTest {
    private static final Class<?> ARGUMENT = IllegalArgumentException.class;
    private static final Class<?> INDEX = IndexOutOfBoundsException.class;
    private static final Check check = new Check();

    public static void main(String[] args) {
        airRefuses();
        fairnessByAir();
        cheatIsSuspectFromThreeRepeats();
        wouldGetTheNearer();
        wouldRefuses();
        throughputs();
        bestChances();
        covers();
        check.end();
    }

    private static void airRefuses() {
        Sharedair air = new Sharedair();
        check.refused("air", ARGUMENT, air, () -> air.air(-1));
        check.refused("air", ARGUMENT, air, () -> air.air(13));
        check.refused("air", ARGUMENT, air, () -> air.air(Integer.MIN_VALUE));
    }

    private static void fairnessByAir() {
        Sharedair air = new Sharedair();
        air.node(0, 0, 5, false);
        air.node(4, 0, 5, false);
        air.exchange(1);
        check.same("fairness() before", air.fairness(), 1.0);
        air.send(0, 1, 3);
        air.pass(3);
        check.same("fairness() of 3, 0", air.fairness(), 0.5);
        air.send(1, 0, 1);
        air.pass(1);
        check.same("fairness() of 3, 1", air.fairness(), 16.0 / 20.0);
        air.send(1, 0, 2);
        air.pass(2);
        check.same("fairness() of 3, 3", air.fairness(), 1.0);
        air.node(29, 29, 5, false);
        check.same("fairness() of 3, 3, 0", air.fairness(), 36.0 / 54.0);
    }

    private static void cheatIsSuspectFromThreeRepeats() {
        Sharedair air = new Sharedair();
        air.node(0, 0, 5, false);
        air.node(4, 0, 5, false);
        air.node(25, 25, 5, false);
        air.node(29, 25, 5, false);
        air.exchange(1);
        air.tune(1, 1, false);
        air.tune(3, 1, false);
        air.tune(0, 5, true);
        air.send(0, 1, 1);
        air.send(2, 3, 1);
        air.pass(2);
        check.same("REPEATS of the cheat", air.ofNode(0, 12), 2);
        check.same("suspect with 2 REPEATS", air.ofNode(0, 13), 0);
        air.pass(1);
        check.same("REPEATS of the cheat", air.ofNode(0, 12), 3);
        check.same("suspect with 3 REPEATS", air.ofNode(0, 13), 1);
        air.pass(60);
        check.same("REPEATS of the other", air.ofNode(2, 12), 4);
        check.same("the other is no suspect", air.ofNode(2, 13), 0);
        check.same("who never sent is no suspect", air.ofNode(1, 13), 0);
    }

    private static void wouldGetTheNearer() {
        Sharedair air = new Sharedair();
        air.node(10, 10, 42, false);
        air.node(12, 10, 42, false);
        air.node(10, 14, 42, false);
        check.same("a quarter just", air.would(6, 0), 1);
        check.same("one alone", air.would(4, 0), 2);
        check.same("nobody", air.would(0, 0), -1);
        air.move(2, 12, 13);
        check.same("more than a quarter", air.would(6, 0), -1);
        air.tune(2, 3, false);
        check.same("unheard, so not in the way", air.would(6, 0), 1);
        check.same("unheard alone", air.would(4, 0), -1);
        air.tune(2, 42, false);
        air.move(1, 10, 10);
        check.same("at the same place", air.would(6, 0), 1);
        air.move(2, 10, 10);
        check.same("all at the same place", air.would(6, 0), 1);
        air.move(1, 29, 29);
        check.same("the nearer has the greater number", air.would(6, 0), 2);
        check.same("row()", air.row(), "...");
    }

    private static void wouldRefuses() {
        Sharedair air = new Sharedair();
        air.node(0, 0, 5, false);
        air.node(1, 0, 5, false);
        check.refused("would", INDEX, air, () -> air.would(-1, 2));
        check.refused("would", INDEX, air, () -> air.would(1, -1));
        check.refused("would", ARGUMENT, air, () -> air.would(-1, 0));
        check.refused("would", ARGUMENT, air, () -> air.would(4, 0));
        check.refused("would", ARGUMENT, air, () -> air.would(1, 0));
        check.refused("would", ARGUMENT, air, () -> air.would(3, 1));
        check.refused("would", ARGUMENT, air, () -> air.would(Integer.MIN_VALUE, 0));
        check.refused("would", ARGUMENT, air, () -> air.would(Integer.MAX_VALUE - 1, 0));
    }

    private static double chance(int many, int chance) {
        double product = many * chance / 100.0;
        for (int i = 1; i < many; i++) {
            product *= (100 - chance) / 100.0;
        }
        return product;
    }

    private static void throughputs() {
        Sharedair air = new Sharedair();
        check.same("throughput(1, 0)", air.throughput(1, 0), 0.0);
        check.same("throughput(1, 100)", air.throughput(1, 100), 1.0);
        check.same("throughput(2, 100)", air.throughput(2, 100), 0.0);
        check.same("throughput(2, 50)", air.throughput(2, 50), 0.5);
        check.same("throughput(4, 25)", air.throughput(4, 25), 0.421875);
        check.same("throughput(20, 5)", air.throughput(20, 5), 0.37735360253530714);
        check.same("throughput(3, 33)", air.throughput(3, 33), chance(3, 33));
        check.refused("throughput", ARGUMENT, air, () -> air.throughput(0, 1));
        check.refused("throughput", ARGUMENT, air, () -> air.throughput(21, 1));
        check.refused("throughput", ARGUMENT, air, () -> air.throughput(1, -1));
        check.refused("throughput", ARGUMENT, air, () -> air.throughput(1, 101));
    }

    private static void bestChances() {
        Sharedair air = new Sharedair();
        check.same("bestChance(1)", air.bestChance(1), 100);
        check.same("bestChance(2)", air.bestChance(2), 50);
        check.same("bestChance(4)", air.bestChance(4), 25);
        for (int many = 1; many <= 20; many++) {
            int best = 0;
            for (int p = 0; p <= 100; p++) {
                best = chance(many, p) > chance(many, best) ? p : best;
            }
            check.same("bestChance(" + many + ")", air.bestChance(many), best);
        }
        check.refused("bestChance", ARGUMENT, air, () -> air.bestChance(0));
        check.refused("bestChance", ARGUMENT, air, () -> air.bestChance(21));
    }

    private static void covers() {
        Sharedair air = new Sharedair();
        air.node(0, 0, 5, false);
        check.same("cover() of one", air.cover(), 1);
        air.node(5, 0, 5, false);
        check.same("cover() of two that hear each other", air.cover(), 1);
        air.node(10, 0, 5, false);
        check.same("cover() by the one between", air.cover(), 2);
        air.tune(1, 1, false);
        check.same("cover() as none hears 1", air.cover(), 5);
        air.move(1, 29, 29);
        check.same("cover() of three alone", air.cover(), 7);
    }
}
