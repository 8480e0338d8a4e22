import java.util.ArrayList;
import java.util.Arrays;
import java.util.List;

/**
 * Promises 1 to 25 over long runs of calls: what one call answers is found again, from the document's words,
 * out of what other calls answer; and no call throws but what the document says. These runs ask on behind the 512th
 * call, where answers are free by the document: the class answers alike there.
 */
public final class RandomRunsTest {
    private static final Check check = new Check();
    private static long seed = 1;

    public static void main(String[] args) {
        for (int run = 0; run < 60; run++) {
            run(run);
        }
        wildArguments();
        check.end();
    }

    private static int random(int least, int most) {
        seed = seed * 6364136223846793005L + 1442695040888963407L;
        return least + (int) ((seed >>> 33) % (most - least + 1));
    }

    private static void run(int run) {
        Sharedair air = new Sharedair();
        List<int[]> bids = new ArrayList<>();
        int nodes = random(1, 8);
        int span = random(3, 29);
        for (int i = 0; i < nodes; i++) {
            air.node(random(0, span), random(0, span), random(1, 20), random(0, 3) == 0);
        }
        for (int call = nodes; call < 200; call++) {
            change(air, bids, nodes, span);
            if (call % 10 == 0) {
                countsAgree(air, nodes);
                waysAgree(air, nodes);
                check.same("cover()", air.cover(), cover(air, nodes));
                auctionAgrees(air, bids);
                wouldAgrees(air, nodes);
                check.same("isSound()", air.isSound(), true);
                check.same("digest()", air.digest(), digest(air, nodes));
            }
        }
    }

    private static void change(Sharedair air, List<int[]> bids, int nodes, int span) {
        int node = random(0, nodes - 1);
        switch (random(0, 11)) {
            case 0:
                if (air.ofNode(node, 7) == 0) {
                    air.move(node, random(0, span), random(0, span));
                }
                break;
            case 1:
                if (air.ofNode(node, 7) == 0) {
                    air.tune(node, random(1, 20), random(0, 3) == 0);
                }
                break;
            case 2:
                exchangeAgrees(air, nodes);
                break;
            case 3:
                if (bids.size() < 10) {
                    int[] bid = {random(0, 4), random(1, 63) & random(1, 63) | 1 << random(0, 5), random(1, 9) * 10};
                    check.same("bid", air.bid(bid[0], bid[1], bid[2]), bids.size());
                    bids.add(bid);
                }
                break;
            case 4:
                if (random(0, 5) == 0) {
                    air.sell();
                    bids.clear();
                }
                break;
            case 5: case 6: case 7:
                air.pass(random(1, 3));
                break;
            default:
                int to = random(0, nodes - 1);
                if (to != node && air.ofNode(node, 4) < 4) {
                    air.send(node, to, random(1, 3));
                }
        }
    }

    private static void exchangeAgrees(Sharedair air, int nodes) {
        int[][] due = new int[nodes * nodes][2];
        int pairs = 0;
        for (int a = 0; a < nodes; a++) {
            for (int b = 0; b < nodes; b++) {
                if (a != b) {
                    due[a * nodes + b] = renewed(air, nodes, a, b);
                    pairs += due[a * nodes + b][1] >= 0 ? 1 : 0;
                }
            }
        }
        check.same("exchange(1)", air.exchange(1), pairs);
        for (int a = 0; a < nodes; a++) {
            for (int b = 0; b < nodes; b++) {
                if (a != b) {
                    int[] got = {air.route(a, b, 0), air.route(a, b, 1)};
                    check.same("route", Arrays.toString(got), Arrays.toString(due[a * nodes + b]));
                }
            }
        }
    }

    private static int[] renewed(Sharedair air, int nodes, int a, int b) {
        int linked = air.ofNode(a, 14);
        if ((linked >> b & 1) != 0) {
            return new int[] {1, b};
        }
        int[] best = {9, -1};
        for (int c = 0; c < nodes; c++) {
            if ((linked >> c & 1) != 0 && air.route(c, b, 1) >= 0 && air.route(c, b, 1) != a
                    && air.route(c, b, 0) + 1 < best[0]) {
                best = new int[] {air.route(c, b, 0) + 1, c};
            }
        }
        return best[1] < 0 ? new int[] {-1, -1} : best;
    }

    private static void countsAgree(Sharedair air, int nodes) {
        int inQueues = 0;
        int sending = 0;
        double sum = 0;
        double squares = 0;
        StringBuilder row = new StringBuilder();
        for (int i = 0; i < nodes; i++) {
            inQueues += air.ofNode(i, 4);
            sending += air.ofNode(i, 7) > 0 ? 1 : 0;
            sum += air.ofNode(i, 9);
            squares += air.ofNode(i, 9) * air.ofNode(i, 9);
            row.append(air.ofNode(i, 7) > 0 ? 'T' : air.ofNode(i, 5) > 0 ? 'w' : air.ofNode(i, 4) > 0 ? 'q' : '.');
            check.same("suspect", air.ofNode(i, 13), suspect(air, nodes, i));
            check.same("NEXT", air.ofNode(i, 8) >= 0, air.ofNode(i, 7) > 0);
        }
        check.same("air(7)", air.air(7), inQueues);
        check.same("air(3)", air.air(3), sending);
        check.same("fairness()", air.fairness(), sum == 0 ? 1.0 : sum * sum / (nodes * squares));
        check.same("row()", air.row(), row.toString());
        int arrived = 0;
        for (int i = 0; i < nodes; i++) {
            for (int k = 0; k < air.ofNode(i, 15); k++) {
                arrived += air.delivered(i, k) ? 1 : 0;
            }
        }
        check.same("air(4)", air.air(4), arrived);
    }

    private static int suspect(Sharedair air, int nodes, int node) {
        int patience = 0;
        int repeats = 0;
        for (int i = 0; i < nodes; i++) {
            patience += i == node ? 0 : air.ofNode(i, 11);
            repeats += i == node ? 0 : air.ofNode(i, 12);
        }
        int own = air.ofNode(node, 12);
        return own >= 3 && 4 * air.ofNode(node, 11) * repeats < patience * own ? 1 : 0;
    }

    private static void waysAgree(Sharedair air, int nodes) {
        int circles = 0;
        for (int a = 0; a < nodes; a++) {
            for (int b = 0; b < nodes; b++) {
                if (a == b) {
                    continue;
                }
                int at = a;
                int steps = 0;
                while (at >= 0 && at != b && steps < 100) {
                    at = air.route(at, b, 1);
                    steps++;
                }
                circles += steps == 100 ? 1 : 0;
                check.same("circle", air.route(a, b, 3), steps == 100 ? 1 : 0);
                check.same("way", air.route(a, b, 2), at == b ? steps + 1 : -1);
            }
        }
        check.same("air(12)", air.air(12), circles);
    }

    private static int cover(Sharedair air, int nodes) {
        int best = (1 << nodes) - 1;
        for (int set = (1 << nodes) - 1; set >= 0; set--) {
            boolean all = true;
            for (int i = 0; i < nodes; i++) {
                boolean reached = (set >> i & 1) != 0;
                for (int j = 0; j < nodes; j++) {
                    reached |= j != i && (set >> j & 1) != 0 && air.hears(i, j);
                }
                all &= reached;
            }
            if (all && Integer.bitCount(set) <= Integer.bitCount(best)) {
                best = set;
            }
        }
        return best;
    }

    /** The worth of a set of bids that has none of a bidder (-1: of none); -1 if two exclude each other. */
    private static int worth(List<int[]> bids, int set, int without) {
        int channels = 0;
        int bidders = 0;
        int sum = 0;
        for (int i = 0; i < bids.size(); i++) {
            int[] bid = bids.get(i);
            if ((set >> i & 1) == 0) {
                continue;
            }
            if ((channels & bid[1]) != 0 || (bidders >> bid[0] & 1) != 0 || bid[0] == without) {
                return -1;
            }
            channels |= bid[1];
            bidders |= 1 << bid[0];
            sum += bid[2];
        }
        return sum;
    }

    private static int best(List<int[]> bids, int without) {
        int best = 0;
        for (int set = 0; set < 1 << bids.size(); set++) {
            if (worth(bids, set, without) > worth(bids, best, without)) {
                best = set;
            }
        }
        return best;
    }

    private static void auctionAgrees(Sharedair air, List<int[]> bids) {
        int winners = best(bids, -1);
        int worth = worth(bids, winners, -1);
        check.same("auction(0)", air.auction(0), winners);
        check.same("auction(1)", air.auction(1), worth);
        for (int bidder = 0; bidder < 5; bidder++) {
            int due = 0;
            for (int i = 0; i < bids.size(); i++) {
                if ((winners >> i & 1) != 0 && bids.get(i)[0] == bidder) {
                    due = worth(bids, best(bids, bidder), bidder) - (worth - bids.get(i)[2]);
                }
            }
            check.same("auction(" + (2 + bidder) + ")", air.auction(2 + bidder), due);
        }
    }

    private static int far(Sharedair air, int a, int b) {
        int dx = air.ofNode(a, 0) - air.ofNode(b, 0);
        int dy = air.ofNode(a, 1) - air.ofNode(b, 1);
        return dx * dx + dy * dy;
    }

    private static void wouldAgrees(Sharedair air, int nodes) {
        for (int node = 0; node < nodes; node++) {
            int senders = random(0, (1 << nodes) - 1) & ~(1 << node);
            int due = -1;
            for (int x = nodes - 1; x >= 0; x--) {
                boolean gets = (senders >> x & 1) != 0 && air.hears(node, x);
                for (int z = 0; z < nodes; z++) {
                    if (z != x && (senders >> z & 1) != 0 && air.hears(node, z)) {
                        gets &= 4 * far(air, x, node) <= far(air, z, node);
                    }
                }
                due = gets ? x : due;
            }
            check.same("would", air.would(senders, node), due);
        }
    }

    private static long digest(Sharedair air, int nodes) {
        List<Long> values = new ArrayList<>();
        for (int what = 0; what <= 12; what++) {
            values.add((long) air.air(what));
        }
        for (int i = 0; i < nodes; i++) {
            for (int what = 0; what <= 15; what++) {
                values.add((long) air.ofNode(i, what));
            }
            for (int what = 0; what <= 4; what++) {
                values.add((long) air.inQueue(i, 0, what));
            }
            for (int j = 0; j < nodes; j++) {
                for (int what = 0; what <= 3 && i != j; what++) {
                    values.add((long) air.route(i, j, what));
                }
            }
        }
        values.add((long) (4096 * air.fairness()));
        for (int what = 0; what <= 6; what++) {
            values.add((long) air.auction(what));
        }
        values.add((long) air.cover());
        values.add(air.isSound() ? 1L : 0L);
        long d = 7603;
        for (long v : values) {
            d = d * 31 + v;
        }
        return d;
    }

    /** Any arguments in any state, also behind the 512th call: at most the three exceptions themselves are thrown. */
    private static void wildArguments() {
        int[] wild = {Integer.MIN_VALUE, -2, -1, 0, 1, 2, 3, 4, 5, 7, 8, 9, 10, 31, 32, 63, 64, 511, 512, 513,
            1 << 30, Integer.MAX_VALUE};
        Sharedair air = new Sharedair();
        for (int call = 0; call < 60000; call++) {
            if (call % 6000 == 0) {
                air = new Sharedair();
            }
            int a = wild[random(0, wild.length - 1)];
            int b = wild[random(0, wild.length - 1)];
            int c = wild[random(0, wild.length - 1)];
            try {
                anyCall(air, random(0, 23), a, b, c);
            } catch (RuntimeException e) {
                Class<?> got = e.getClass();
                check.same("a documented exception", got == IllegalArgumentException.class
                        || got == IllegalStateException.class || got == IndexOutOfBoundsException.class, true);
            }
        }
    }

    private static void anyCall(Sharedair air, int which, int a, int b, int c) {
        switch (which) {
            case 0: air.node(a, b, c, a > b); break;
            case 1: air.move(a, b, c); break;
            case 2: air.tune(a, b, b > c); break;
            case 3: air.send(a, b, c); break;
            case 4: air.pass(a); break;
            case 5: air.exchange(a); break;
            case 6: air.bid(a, b, c); break;
            case 7: air.sell(); break;
            case 8: air.knock(); break;
            case 9: air.hears(a, b); break;
            case 10: air.ofNode(a, b); break;
            case 11: air.inQueue(a, b, c); break;
            case 12: air.route(a, b, c); break;
            case 13: air.air(a); break;
            case 14: air.delivered(a, b); break;
            case 15: air.fairness(); break;
            case 16: air.row(); break;
            case 17: air.would(a, b); break;
            case 18: air.throughput(a, b); break;
            case 19: air.bestChance(a); break;
            case 20: air.auction(a); break;
            case 21: air.cover(); break;
            case 22: air.isSound(); break;
            default: air.digest();
        }
    }
}
