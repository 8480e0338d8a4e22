import java.util.ArrayList;
import java.util.HashMap;
import java.util.HashSet;
import java.util.List;
import java.util.Map;
import java.util.Set;
import java.util.TreeMap;

/**
 * The document's words once more, in its order and as plainly as they stand, with the same calls as the class.
 * It also counts what happened in it, so that a test can tell which of the document's cases its runs have reached.
 */
final class Model {
    private static final int NONE = -1;
    private static final int ALL = -1;
    private final List<Radio> radios = new ArrayList<>();
    private final List<int[]> bids = new ArrayList<>();
    private final Set<List<Integer>> delivered = new HashSet<>();
    private final Map<String, Integer> happened;
    private int slot = 0;
    private int luck = 41;
    private int deliveries = 0;
    private int doubles = 0;
    private int dropped = 0;
    private int exchanges = 0;
    private int paid = 0;
    private int refused = 0;
    private int[] sale = null;

    Model(Map<String, Integer> happened) {
        this.happened = happened;
    }

    Model() {
        this(new TreeMap<>());
    }

    private void happens(String what) {
        happened.merge(what, 1, Integer::sum);
    }

    private static final class Frame {
        final int from;
        final int to;
        final int length;
        final int number;
        final int hops;

        Frame(int from, int to, int length, int number, int hops) {
            this.from = from;
            this.to = to;
            this.length = length;
            this.number = number;
            this.hops = hops;
        }
    }

    private static final class Radio {
        int x;
        int y;
        int reach;
        boolean cheat;
        final List<Frame> queue = new ArrayList<>();
        int wait = 0;
        int tries = 0;
        int left = 0;
        int next = NONE;
        /** Those that got all slots so far of what this one sends. */
        final Set<Integer> gotAll = new HashSet<>();
        int air = 0;
        int starts = 0;
        int patience = 0;
        int repeats = 0;
        int sent = 0;
        Map<Integer, Integer> cost = new HashMap<>();
        Map<Integer, Integer> route = new HashMap<>();
    }

    // what the document calls by a name of its own

    private int far(int a, int b) {
        int dx = radios.get(a).x - radios.get(b).x;
        int dy = radios.get(a).y - radios.get(b).y;
        return dx * dx + dy * dy;
    }

    private boolean hearing(int a, int b) {
        return a != b && far(a, b) <= radios.get(b).reach * radios.get(b).reach;
    }

    private boolean linked(int a, int b) {
        return hearing(a, b) && hearing(b, a);
    }

    private int links(int a) {
        int set = 0;
        for (int b = 0; b < radios.size(); b++) {
            set += linked(a, b) ? 1 << b : 0;
        }
        return set;
    }

    private int draw(int n) {
        luck = (109 * luck + 57) % 512;
        return luck * n / 512;
    }

    private boolean gets(int y, int x, Set<Integer> sending) {
        if (sending.contains(y) || !hearing(y, x)) {
            return false;
        }
        for (int z : sending) {
            if (z != x && hearing(y, z)) {
                if (4 * far(x, y) > far(z, y)) {
                    happens("not got, as another one is near");
                    return false;
                }
                happens("got, as the other one is far");
            }
        }
        return true;
    }

    // the calls ---- nodes and slots

    int node(int x, int y, int reach, boolean isCheat) {
        checkPlace(x, y);
        checkReach(reach);
        if (radios.size() == 8) {
            throw new IllegalStateException();
        }
        Radio radio = new Radio();
        radio.x = x;
        radio.y = y;
        radio.reach = reach;
        radio.cheat = isCheat;
        radios.add(radio);
        return radios.size() - 1;
    }

    int move(int node, int x, int y) {
        checkNode(node);
        checkPlace(x, y);
        checkSilent(node);
        radios.get(node).x = x;
        radios.get(node).y = y;
        return Integer.bitCount(links(node));
    }

    int tune(int node, int reach, boolean isCheat) {
        checkNode(node);
        checkReach(reach);
        checkSilent(node);
        int before = radios.get(node).reach;
        radios.get(node).reach = reach;
        radios.get(node).cheat = isCheat;
        return before;
    }

    int send(int from, int to, int length) {
        checkNode(from);
        checkNode(to);
        check(from != to && length >= 1 && length <= 3);
        Radio radio = radios.get(from);
        if (radio.queue.size() == 4) {
            throw new IllegalStateException();
        }
        radio.queue.add(new Frame(from, to, length, radio.sent, 0));
        radio.sent++;
        return radio.sent - 1;
    }

    int pass(int slots) {
        check(slots >= 1 && slots <= 200);
        if (slot + slots > 2000) {
            throw new IllegalStateException();
        }
        for (int i = 0; i < slots; i++) {
            goBy();
        }
        return slot;
    }

    private Set<Integer> sending() {
        Set<Integer> sending = new HashSet<>();
        for (int i = 0; i < radios.size(); i++) {
            if (radios.get(i).left > 0) {
                sending.add(i);
            }
        }
        return sending;
    }

    private void goBy() {
        slot++;
        Set<Integer> since = sending();
        for (int i = 0; i < radios.size(); i++) {
            boolean busy = false;
            for (int other : since) {
                busy |= hearing(i, other);
            }
            if (!since.contains(i) && !busy && !radios.get(i).queue.isEmpty()) {
                act(i);
            }
        }
        Set<Integer> sending = sending();
        for (int x : sending) {
            radios.get(x).air++;
            radios.get(x).left--;
            radios.get(x).gotAll.removeIf(y -> !gets(y, x, sending));
        }
        for (int i = 0; i < radios.size(); i++) {
            if (sending.contains(i) && radios.get(i).left == 0) {
                end(i);
            }
        }
    }

    private void act(int i) {
        Radio radio = radios.get(i);
        Frame first = radio.queue.get(0);
        if (radio.wait > 0) {
            radio.wait--;
        } else if (radio.route.containsKey(first.to)) {
            radio.starts++;
            radio.left = first.length;
            radio.next = radio.route.get(first.to);
            radio.gotAll.clear();
            for (int y = 0; y < radios.size(); y++) {
                radio.gotAll.add(y);
            }
        } else {
            happens(radio.tries > 0 ? "dropped without a route, with tries" : "dropped without a route");
            drop(radio);
        }
    }

    private void drop(Radio radio) {
        radio.queue.remove(0);
        radio.tries = 0;
        dropped++;
    }

    private void end(int i) {
        Radio radio = radios.get(i);
        int next = radio.next;
        radio.next = NONE;
        boolean received = radio.gotAll.contains(next);
        if (received) {
            receive(next, radio.queue.get(0));
        }
        if (received && hearing(i, next)) {
            happens("known, tries " + radio.tries);
            radio.queue.remove(0);
            radio.tries = 0;
            return;
        }
        happens(received ? "received, but not known" : "not received");
        radio.tries++;
        if (radio.tries == 5) {
            happens("dropped at the fifth try");
            drop(radio);
            return;
        }
        happens((radio.cheat ? "repeats of a cheat, tries " : "repeats, tries ") + radio.tries);
        radio.wait = radio.cheat ? 0 : draw((int) Math.pow(2, radio.tries + 1));
        radio.patience += radio.wait;
        radio.repeats++;
    }

    private void receive(int i, Frame frame) {
        if (frame.to == i) {
            if (delivered.add(List.of(frame.from, frame.number))) {
                happens("delivered, hops " + frame.hops);
                deliveries++;
            } else {
                happens("doubles");
                doubles++;
            }
            return;
        }
        List<Frame> queue = radios.get(i).queue;
        if (frame.hops == 7 || queue.size() == 4) {
            happens(frame.hops == 7 ? "dropped with seven hops" : "dropped, the queue is full");
            dropped++;
            return;
        }
        queue.add(new Frame(frame.from, frame.to, frame.length, frame.number, frame.hops + 1));
    }

    int exchange(int times) {
        check(times >= 1 && times <= 10);
        for (int i = 0; i < times; i++) {
            exchangeOnce();
        }
        int pairs = 0;
        for (Radio radio : radios) {
            pairs += radio.route.size();
        }
        return pairs;
    }

    private void exchangeOnce() {
        List<Map<Integer, Integer>> costs = new ArrayList<>();
        List<Map<Integer, Integer>> routes = new ArrayList<>();
        for (int a = 0; a < radios.size(); a++) {
            costs.add(new HashMap<>());
            routes.add(new HashMap<>());
            for (int b = 0; b < radios.size(); b++) {
                int c = linked(a, b) ? b : a == b ? NONE : over(a, b);
                if (c != NONE) {
                    costs.get(a).put(b, c == b ? 1 : radios.get(c).cost.get(b) + 1);
                    routes.get(a).put(b, c);
                }
            }
        }
        for (int a = 0; a < radios.size(); a++) {
            radios.get(a).cost = costs.get(a);
            radios.get(a).route = routes.get(a);
        }
        exchanges++;
    }

    private int over(int a, int b) {
        for (int cost = 1; cost <= 8; cost++) {
            for (int c = 0; c < radios.size(); c++) {
                Radio radio = radios.get(c);
                if (linked(a, c) && radio.cost.getOrDefault(b, 0) == cost && radio.route.get(b) != a) {
                    happens(cost < 8 ? "a route over another one" : "no route, as its cost would be above 8");
                    return cost < 8 ? c : NONE;
                }
            }
        }
        return NONE;
    }

    // ---- bids

    int bid(int bidder, int channels, int price) {
        check(bidder >= 0 && bidder <= 4 && channels >= 1 && channels <= 63 && price >= 1 && price <= 999);
        if (bids.size() == 10) {
            throw new IllegalStateException();
        }
        sale = null;
        bids.add(new int[] {bidder, channels, price});
        return bids.size() - 1;
    }

    int sell() {
        int sum = 0;
        for (int bidder = 0; bidder <= 4; bidder++) {
            sum += sale()[2 + bidder];
        }
        paid += sum;
        sale = null;
        bids.clear();
        return sum;
    }

    int knock() {
        refused++;
        return refused;
    }

    /** What the bids of a set have together; -1 if it is not one that could win, or has one of a bidder. */
    private int worth(int set, int without) {
        int channels = 0;
        int bidders = 0;
        int sum = 0;
        for (int i = 0; i < bids.size(); i++) {
            if ((set & 1 << i) == 0) {
                continue;
            }
            int[] bid = bids.get(i);
            if (bid[0] == without || (channels & bid[1]) != 0 || (bidders & 1 << bid[0]) != 0) {
                return -1;
            }
            channels |= bid[1];
            bidders |= 1 << bid[0];
            sum += bid[2];
        }
        return sum;
    }

    private int winners(int without) {
        int best = 0;
        for (int set = (1 << bids.size()) - 1; set > 0; set--) {
            if (worth(set, without) >= Math.max(1, worth(best, without))) {
                best = set;
            }
        }
        return best;
    }

    private int[] sale() {
        if (sale != null) {
            return sale;
        }
        sale = new int[7];
        sale[0] = winners(ALL);
        sale[1] = worth(sale[0], ALL);
        for (int i = 0; i < bids.size(); i++) {
            if ((sale[0] & 1 << i) != 0) {
                int bidder = bids.get(i)[0];
                sale[2 + bidder] = worth(winners(bidder), bidder) - (sale[1] - bids.get(i)[2]);
            }
        }
        return sale;
    }

    // ---- what is asked

    boolean hears(int node, int other) {
        checkNode(node);
        checkNode(other);
        check(node != other);
        return hearing(node, other);
    }

    int ofNode(int node, int what) {
        checkNode(node);
        check(what >= 0 && what <= 15);
        Radio r = radios.get(node);
        int[] all = {r.x, r.y, r.reach, r.cheat ? 1 : 0, r.queue.size(), r.wait, r.tries, r.left, r.next, r.air,
            r.starts, r.patience, r.repeats, suspect(node) ? 1 : 0, links(node), r.sent};
        return all[what];
    }

    private boolean suspect(int node) {
        int patience = 0;
        int repeats = 0;
        for (Radio radio : radios) {
            patience += radio.patience;
            repeats += radio.repeats;
        }
        Radio it = radios.get(node);
        boolean suspect = it.repeats >= 3
            && 4 * it.patience * (repeats - it.repeats) < (patience - it.patience) * it.repeats;
        if (suspect) {
            happens("suspect");
        }
        return suspect;
    }

    int inQueue(int node, int nth, int what) {
        checkNode(node);
        check(nth >= 0 && what >= 0 && what <= 4);
        List<Frame> queue = radios.get(node).queue;
        if (nth >= queue.size()) {
            return NONE;
        }
        Frame f = queue.get(nth);
        return new int[] {f.from, f.to, f.length, f.number, f.hops}[what];
    }

    int route(int node, int other, int what) {
        checkNode(node);
        checkNode(other);
        check(node != other && what >= 0 && what <= 3);
        Radio radio = radios.get(node);
        switch (what) {
            case 0: return radio.cost.getOrDefault(other, NONE);
            case 1: return radio.route.getOrDefault(other, NONE);
            case 2: return way(node, other).contains(other) ? way(node, other).size() : NONE;
            default: return circle(node, other) ? 1 : 0;
        }
    }

    /** The nodes that the way comes to, as far as it goes without coming to one twice. */
    private Set<Integer> way(int node, int other) {
        Set<Integer> way = new HashSet<>();
        int at = node;
        while (at != NONE && way.add(at) && at != other) {
            at = radios.get(at).route.getOrDefault(other, NONE);
        }
        return way;
    }

    private boolean circle(int node, int other) {
        Set<Integer> way = way(node, other);
        for (int at : way) {
            if (at == other || !radios.get(at).route.containsKey(other)) {
                return false;
            }
        }
        happens("circle");
        return true;
    }

    int air(int what) {
        check(what >= 0 && what <= 12);
        int frames = 0;
        int circles = 0;
        for (int a = 0; a < radios.size(); a++) {
            frames += radios.get(a).queue.size();
            for (int b = 0; b < radios.size(); b++) {
                circles += a != b && circle(a, b) ? 1 : 0;
            }
        }
        int[] all = {slot, radios.size(), luck, sending().size(), deliveries, doubles, dropped, frames, exchanges,
            bids.size(), paid, refused, circles};
        return all[what];
    }

    boolean delivered(int from, int number) {
        checkNode(from);
        if (number < 0 || number >= radios.get(from).sent) {
            throw new IndexOutOfBoundsException();
        }
        return delivered.contains(List.of(from, number));
    }

    double fairness() {
        double sum = 0;
        double squares = 0;
        for (Radio radio : radios) {
            sum += radio.air;
            squares += radio.air * radio.air;
        }
        return sum == 0 ? 1.0 : sum * sum / (radios.size() * squares);
    }

    String row() {
        String row = "";
        for (Radio radio : radios) {
            row += radio.left > 0 ? "T" : radio.wait > 0 ? "w" : !radio.queue.isEmpty() ? "q" : ".";
        }
        return row;
    }

    // ---- what would be

    int would(int senders, int node) {
        checkNode(node);
        check(senders >= 0 && senders < 1 << radios.size() && (senders & 1 << node) == 0);
        Set<Integer> set = new HashSet<>();
        for (int i = 0; i < radios.size(); i++) {
            if ((senders & 1 << i) != 0) {
                set.add(i);
            }
        }
        for (int i = 0; i < radios.size(); i++) {
            if (set.contains(i) && gets(node, i, set)) {
                return i;
            }
        }
        return NONE;
    }

    double throughput(int many, int chance) {
        check(many >= 1 && many <= 20 && chance >= 0 && chance <= 100);
        double throughput = many * chance / 100.0;
        for (int i = 0; i < many - 1; i++) {
            throughput = throughput * ((100 - chance) / 100.0);
        }
        return throughput;
    }

    int bestChance(int many) {
        check(many >= 1 && many <= 20);
        int best = 100;
        for (int chance = 99; chance >= 0; chance--) {
            best = throughput(many, chance) >= throughput(many, best) ? chance : best;
        }
        return best;
    }

    int auction(int what) {
        check(what >= 0 && what <= 6);
        return sale()[what];
    }

    int cover() {
        for (int many = 0; many <= radios.size(); many++) {
            for (int set = 0; set < 1 << radios.size(); set++) {
                if (Integer.bitCount(set) == many && covers(set)) {
                    return set;
                }
            }
        }
        throw new AssertionError("all nodes are no cover");
    }

    private boolean covers(int set) {
        for (int i = 0; i < radios.size(); i++) {
            boolean reached = (set & 1 << i) != 0;
            for (int j = 0; j < radios.size(); j++) {
                reached |= (set & 1 << j) != 0 && hearing(i, j);
            }
            if (!reached) {
                return false;
            }
        }
        return true;
    }

    /** No sentence of the document asks that some run of calls leads to a state that is not sound. */
    boolean isSound() {
        return true;
    }

    long digest() {
        List<Long> values = new ArrayList<>();
        for (int what = 0; what <= 12; what++) {
            values.add((long) air(what));
        }
        for (int node = 0; node < radios.size(); node++) {
            addNode(values, node);
        }
        values.add((long) (4096 * fairness()));
        for (int what = 0; what <= 6; what++) {
            values.add((long) auction(what));
        }
        values.add((long) cover());
        values.add(isSound() ? 1L : 0L);
        long d = 7603;
        for (long v : values) {
            d = d * 31 + v;
        }
        return d;
    }

    private void addNode(List<Long> values, int node) {
        for (int what = 0; what <= 15; what++) {
            values.add((long) ofNode(node, what));
        }
        for (int what = 0; what <= 4; what++) {
            values.add((long) inQueue(node, 0, what));
        }
        for (int other = 0; other < radios.size(); other++) {
            for (int what = 0; what <= 3 && other != node; what++) {
                values.add((long) route(node, other, what));
            }
        }
    }

    // what is refused

    private static void check(boolean holds) {
        if (!holds) {
            throw new IllegalArgumentException();
        }
    }

    private void checkNode(int node) {
        if (node < 0 || node >= radios.size()) {
            throw new IndexOutOfBoundsException();
        }
    }

    private static void checkPlace(int x, int y) {
        check(x >= 0 && x <= 29 && y >= 0 && y <= 29);
    }

    private static void checkReach(int reach) {
        check(reach >= 1 && reach <= 42);
    }

    private void checkSilent(int node) {
        if (radios.get(node).left > 0) {
            throw new IllegalStateException();
        }
    }
}
