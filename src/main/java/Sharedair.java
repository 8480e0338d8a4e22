/**
 * A country of radios that share one channel.
 *
 * The words used here (node, slot, frame, reach, far, way, winners, ...) are those of the document.
 */
public final class Sharedair {
    private static final int NONE = -1;
    private static final int MAX_NODES = 8;
    private static final int MAX_PLACE = 29;
    private static final int MAX_REACH = 42;
    private static final int MAX_SLOTS = 2000;
    private static final int MAX_LENGTH = 3;
    private static final int MAX_QUEUE = 4;
    private static final int MAX_TRIES = 5;
    private static final int MAX_HOPS = 7;
    private static final int MAX_COST = 8;
    private static final int MAX_BIDS = 10;
    private static final int BIDDERS = 5;
    private static final int CHANNELS = 6;
    private static final int MAX_MANY = 20;

    private final Land land = new Land();
    private final Routes routes = new Routes(land);
    private final Traffic traffic = new Traffic(land, routes);
    private final Market market = new Market();
    private int refused = 0;

    public Sharedair() {
    }

    // ---- nodes and slots

    public int node(int x, int y, int reach, boolean isCheat) throws IllegalArgumentException, IllegalStateException {
        if (!isPlace(x, y) || !isReach(reach)) {
            throw new IllegalArgumentException("x or y is not 0 to 29, or reach not 1 to 42");
        }
        if (land.count >= MAX_NODES) {
            throw new IllegalStateException("there are 8 nodes");
        }
        return land.add(x, y, reach, isCheat);
    }

    public int move(int node, int x, int y)
            throws IndexOutOfBoundsException, IllegalArgumentException, IllegalStateException {
        checkNode(node);
        if (!isPlace(x, y)) {
            throw new IllegalArgumentException("x or y is not 0 to 29");
        }
        checkSilent(node);
        land.put(node, x, y);
        return Integer.bitCount(land.linkedWith(node));
    }

    public int tune(int node, int reach, boolean isCheat)
            throws IndexOutOfBoundsException, IllegalArgumentException, IllegalStateException {
        checkNode(node);
        if (!isReach(reach)) {
            throw new IllegalArgumentException("reach is not 1 to 42");
        }
        checkSilent(node);
        int before = land.nodes[node].reach;
        land.adjust(node, reach, isCheat);
        return before;
    }

    public int send(int from, int to, int length)
            throws IndexOutOfBoundsException, IllegalArgumentException, IllegalStateException {
        checkNode(from);
        checkNode(to);
        if (from == to || !isWithin(length, 1, MAX_LENGTH)) {
            throw new IllegalArgumentException("both nodes are the same, or length is not 1 to 3");
        }
        Node node = land.nodes[from];
        int number = node.sent;
        if (!node.queue.add(from, to, length, number, 0)) {
            throw new IllegalStateException("the queue is full");
        }
        node.sent++;
        return number;
    }

    public int pass(int slots) throws IllegalArgumentException, IllegalStateException {
        if (!isWithin(slots, 1, 200)) {
            throw new IllegalArgumentException("slots is not 1 to 200");
        }
        if (traffic.slot + slots > MAX_SLOTS) {
            throw new IllegalStateException("the slot would be above 2000");
        }
        for (int i = 0; i < slots; i++) {
            traffic.goBy();
        }
        return traffic.slot;
    }

    public int exchange(int times) throws IllegalArgumentException {
        if (!isWithin(times, 1, 10)) {
            throw new IllegalArgumentException("times is not 1 to 10");
        }
        for (int i = 0; i < times; i++) {
            routes.renew();
        }
        return routes.pairsWithRoute();
    }

    // ---- bids

    public int bid(int bidder, int channels, int price) throws IllegalArgumentException, IllegalStateException {
        if (!isWithin(bidder, 0, BIDDERS - 1) || !isWithin(channels, 1, (1 << CHANNELS) - 1)
                || !isWithin(price, 1, 999)) {
            throw new IllegalArgumentException("bidder is not 0 to 4, channels not 1 to 63, or price not 1 to 999");
        }
        if (market.count >= MAX_BIDS) {
            throw new IllegalStateException("there are 10 bids");
        }
        return market.add(bidder, channels, price);
    }

    public int sell() {
        return market.sellAll();
    }

    public int knock() {
        refused++;
        return refused;
    }

    // ---- what is asked

    public boolean hears(int node, int other) throws IndexOutOfBoundsException, IllegalArgumentException {
        checkPair(node, other);
        return land.canHear(node, other);
    }

    public int ofNode(int node, int what) throws IndexOutOfBoundsException, IllegalArgumentException {
        checkNode(node);
        Node it = land.nodes[node];
        switch (what) {
            case 0: return it.x;
            case 1: return it.y;
            case 2: return it.reach;
            case 3: return it.isCheat ? 1 : 0;
            case 4: return it.queue.size;
            case 5: return it.waiting;
            case 6: return it.tries;
            case 7: return it.toCome;
            case 8: return it.next;
            case 9: return it.slotsSent;
            case 10: return it.starts;
            case 11: return it.patience;
            case 12: return it.repeats;
            case 13: return land.isSuspect(node) ? 1 : 0;
            case 14: return land.linkedWith(node);
            case 15: return it.sent;
            default: throw new IllegalArgumentException("what is not 0 to 15");
        }
    }

    public int inQueue(int node, int nth, int what) throws IndexOutOfBoundsException, IllegalArgumentException {
        checkNode(node);
        if (nth < 0 || !isWithin(what, 0, 4)) {
            throw new IllegalArgumentException("nth is below 0, or what is not 0 to 4");
        }
        Frame frame = land.nodes[node].queue.at(nth);
        if (frame == null) {
            return NONE;
        }
        switch (what) {
            case 0: return frame.from;
            case 1: return frame.to;
            case 2: return frame.length;
            case 3: return frame.number;
            default: return frame.hops;
        }
    }

    public int route(int node, int other, int what) throws IndexOutOfBoundsException, IllegalArgumentException {
        checkPair(node, other);
        switch (what) {
            case 0: return routes.costOf(node, other);
            case 1: return routes.nextOf(node, other);
            case 2: return routes.wayLength(node, other);
            case 3: return routes.hasCircle(node, other) ? 1 : 0;
            default: throw new IllegalArgumentException("what is not 0 to 3");
        }
    }

    public int air(int what) throws IllegalArgumentException {
        switch (what) {
            case 0: return traffic.slot;
            case 1: return land.count;
            case 2: return traffic.luck;
            case 3: return Integer.bitCount(traffic.senders());
            case 4: return traffic.deliveries;
            case 5: return traffic.doubles;
            case 6: return traffic.dropped;
            case 7: return land.framesInQueues();
            case 8: return routes.exchanges;
            case 9: return market.count;
            case 10: return market.paidEver;
            case 11: return refused;
            case 12: return routes.pairsWithCircle();
            default: throw new IllegalArgumentException("what is not 0 to 12");
        }
    }

    public boolean delivered(int from, int number) throws IndexOutOfBoundsException {
        checkNode(from);
        Node node = land.nodes[from];
        if (number < 0 || number >= node.sent) {
            throw new IndexOutOfBoundsException("no frame of that number");
        }
        return node.arrivals.has(number);
    }

    public double fairness() {
        long sum = 0;
        long squares = 0;
        for (int i = 0; i < land.count; i++) {
            long slotsSent = land.nodes[i].slotsSent;
            sum += slotsSent;
            squares += slotsSent * slotsSent;
        }
        if (squares <= 0) {
            return 1.0;
        }
        return (double) (sum * sum) / (double) (land.count * squares);
    }

    public String row() {
        StringBuilder text = new StringBuilder();
        for (int i = 0; i < land.count; i++) {
            text.append(land.nodes[i].sign());
        }
        return text.toString();
    }

    // ---- what would be (nothing is changed)

    public int would(int senders, int node) throws IndexOutOfBoundsException, IllegalArgumentException {
        checkNode(node);
        if (!isWithin(senders, 0, land.everyone()) || isIn(senders, node)) {
            throw new IllegalArgumentException("senders is no set of nodes, or has that node");
        }
        for (int i = 0; i < land.count; i++) {
            if (isIn(senders, i) && land.gets(node, i, senders)) {
                return i;
            }
        }
        return NONE;
    }

    public double throughput(int many, int chance) throws IllegalArgumentException {
        if (!isWithin(many, 1, MAX_MANY) || !isWithin(chance, 0, 100)) {
            throw new IllegalArgumentException("many is not 1 to 20, or chance not 0 to 100");
        }
        return chanceOfOne(many, chance);
    }

    public int bestChance(int many) throws IllegalArgumentException {
        if (!isWithin(many, 1, MAX_MANY)) {
            throw new IllegalArgumentException("many is not 1 to 20");
        }
        int best = 0;
        double most = chanceOfOne(many, 0);
        for (int chance = 1; chance <= 100; chance++) {
            double now = chanceOfOne(many, chance);
            if (now > most) {
                best = chance;
                most = now;
            }
        }
        return best;
    }

    public int auction(int what) throws IllegalArgumentException {
        if (!isWithin(what, 0, BIDDERS + 1)) {
            throw new IllegalArgumentException("what is not 0 to 6");
        }
        switch (what) {
            case 0: return market.winners;
            case 1: return market.mostWorth;
            default: return market.paidBy(what - 2);
        }
    }

    public int cover() {
        return land.fewestCovering();
    }

    public boolean isSound() {
        int arrived = 0;
        for (int i = 0; i < land.count; i++) {
            if (!land.nodes[i].isInOrder() || !routes.areInOrder(i)) {
                return false;
            }
            arrived += land.nodes[i].arrivals.size();
        }
        return traffic.deliveries == arrived && fairness() <= 1.0 && market.nobodyOverpays();
    }

    public long digest() {
        long d = 7603;
        for (int what = 0; what <= 12; what++) {
            d = mix(d, air(what));
        }
        for (int i = 0; i < land.count; i++) {
            d = mixNode(d, i);
        }
        d = mix(d, (long) (4096 * fairness()));
        for (int what = 0; what <= 6; what++) {
            d = mix(d, auction(what));
        }
        d = mix(d, cover());
        return mix(d, isSound() ? 1 : 0);
    }

    private long mixNode(long start, int node) {
        long d = start;
        for (int what = 0; what <= 15; what++) {
            d = mix(d, ofNode(node, what));
        }
        for (int what = 0; what <= 4; what++) {
            d = mix(d, inQueue(node, 0, what));
        }
        for (int other = 0; other < land.count; other++) {
            for (int what = 0; what <= 3 && other != node; what++) {
                d = mix(d, route(node, other, what));
            }
        }
        return d;
    }

    private static long mix(long d, long v) {
        return d * 31 + v;
    }

    private void checkNode(int node) {
        if (!land.isNode(node)) {
            throw new IndexOutOfBoundsException("no such node");
        }
    }

    private void checkPair(int node, int other) {
        checkNode(node);
        checkNode(other);
        if (node == other) {
            throw new IllegalArgumentException("both nodes are the same");
        }
    }

    private void checkSilent(int node) {
        if (land.nodes[node].isSending()) {
            throw new IllegalStateException("the node is sending");
        }
    }

    private static boolean isWithin(int value, int least, int most) {
        return value >= least && value <= most;
    }

    private static boolean isPlace(int x, int y) {
        return isWithin(x, 0, MAX_PLACE) && isWithin(y, 0, MAX_PLACE);
    }

    private static boolean isReach(int reach) {
        return isWithin(reach, 1, MAX_REACH);
    }

    private static boolean isIn(int set, int number) {
        return (set >> number & 1) != 0;
    }

    private static double chanceOfOne(int many, int chance) {
        double product = many * chance / 100.0;
        double silence = (100 - chance) / 100.0;
        for (int i = 1; i < many; i++) {
            product *= silence;
        }
        return product;
    }

    private static final class Frame {
        int from = 0;
        int to = 0;
        int length = 0;
        int number = 0;
        int hops = 0;
    }

    /** The frames are made once and used again: what is taken off goes to the unused end of the row. */
    private static final class FrameQueue {
        private final Frame[] frames = new Frame[MAX_QUEUE];
        int size = 0;

        FrameQueue() {
            for (int i = 0; i < MAX_QUEUE; i++) {
                frames[i] = new Frame();
            }
        }

        Frame at(int nth) {
            return nth >= 0 && nth < size ? frames[nth] : null;
        }

        boolean add(int from, int to, int length, int number, int hops) {
            if (size >= MAX_QUEUE) {
                return false;
            }
            Frame frame = frames[size];
            frame.from = from;
            frame.to = to;
            frame.length = length;
            frame.number = number;
            frame.hops = hops;
            size++;
            return true;
        }

        void removeFirst() {
            if (size <= 0) {
                return;
            }
            Frame first = frames[0];
            for (int i = 1; i < size; i++) {
                frames[i - 1] = frames[i];
            }
            size--;
            frames[size] = first;
        }
    }

    /** The numbers below 512: one object has at most 512 calls, so no frame has a number above. */
    private static final class NumberSet {
        private static final int LIMIT = 512;
        private final long[] bits = new long[LIMIT / 64];

        boolean has(int number) {
            return number >= 0 && number < LIMIT && (bits[number / 64] >> (number % 64) & 1L) != 0;
        }

        void put(int number) {
            if (number >= 0 && number < LIMIT) {
                bits[number / 64] |= 1L << (number % 64);
            }
        }

        int size() {
            int sum = 0;
            for (int i = 0; i < bits.length; i++) {
                sum += Long.bitCount(bits[i]);
            }
            return sum;
        }
    }

    private static final class Node {
        int x = 0;
        int y = 0;
        int reach = 0;
        boolean isCheat = false;
        final FrameQueue queue = new FrameQueue();
        int waiting = 0;
        int tries = 0;
        int toCome = 0;
        int next = NONE;
        boolean nextGotAll = false;
        int slotsSent = 0;
        int starts = 0;
        int patience = 0;
        int repeats = 0;
        int sent = 0;
        final NumberSet arrivals = new NumberSet();

        boolean isSending() {
            return toCome > 0;
        }

        void begin(int length, int to) {
            starts++;
            toCome = length;
            next = to;
            nextGotAll = true;
        }

        void finishFirst() {
            queue.removeFirst();
            tries = 0;
        }

        void waitAgain(int slots) {
            waiting = slots;
            patience += slots;
            repeats++;
        }

        char sign() {
            if (isSending()) {
                return 'T';
            }
            if (waiting > 0) {
                return 'w';
            }
            return queue.size > 0 ? 'q' : '.';
        }

        boolean isInOrder() {
            boolean airInOrder = toCome == 0 || (queue.size > 0 && isWithin(toCome, 1, MAX_LENGTH));
            return airInOrder && queue.size <= MAX_QUEUE && isWithin(tries, 0, MAX_TRIES - 1);
        }
    }

    /** All nodes stand ready from the start; those below count have been set up. */
    private static final class Land {
        final Node[] nodes = new Node[MAX_NODES];
        /** Of each node the set of those that hear it. */
        private final int[] hearers = new int[MAX_NODES];
        int count = 0;

        Land() {
            for (int i = 0; i < MAX_NODES; i++) {
                nodes[i] = new Node();
            }
        }

        boolean isNode(int number) {
            return number >= 0 && number < count;
        }

        int everyone() {
            return (1 << count) - 1;
        }

        int add(int x, int y, int reach, boolean isCheat) {
            int number = count;
            count++;
            nodes[number].x = x;
            nodes[number].y = y;
            adjust(number, reach, isCheat);
            return number;
        }

        void put(int node, int x, int y) {
            nodes[node].x = x;
            nodes[node].y = y;
            findHearers();
        }

        void adjust(int node, int reach, boolean isCheat) {
            nodes[node].reach = reach;
            nodes[node].isCheat = isCheat;
            findHearers();
        }

        private void findHearers() {
            for (int i = 0; i < count; i++) {
                int set = 0;
                for (int j = 0; j < count; j++) {
                    if (j != i && far(j, i) <= nodes[i].reach * nodes[i].reach) {
                        set |= 1 << j;
                    }
                }
                hearers[i] = set;
            }
        }

        int far(int node, int other) {
            int dx = nodes[node].x - nodes[other].x;
            int dy = nodes[node].y - nodes[other].y;
            return dx * dx + dy * dy;
        }

        boolean canHear(int node, int other) {
            return isNode(node) && isNode(other) && isIn(hearers[other], node);
        }

        boolean areLinked(int node, int other) {
            return canHear(node, other) && canHear(other, node);
        }

        int linkedWith(int node) {
            int set = 0;
            for (int i = 0; i < count; i++) {
                if (areLinked(node, i)) {
                    set |= 1 << i;
                }
            }
            return set;
        }

        boolean hearsOneOf(int node, int set) {
            for (int i = 0; i < count; i++) {
                if (isIn(set, i) && canHear(node, i)) {
                    return true;
                }
            }
            return false;
        }

        /** Whether a node gets what a sender sends, if just these senders are sending. */
        boolean gets(int node, int sender, int senders) {
            if (isIn(senders, node) || !canHear(node, sender)) {
                return false;
            }
            int nearby = 4 * far(sender, node);
            for (int i = 0; i < count; i++) {
                boolean disturbs = i != sender && isIn(senders, i) && canHear(node, i);
                if (disturbs && nearby > far(i, node)) {
                    return false;
                }
            }
            return true;
        }

        int framesInQueues() {
            int sum = 0;
            for (int i = 0; i < count; i++) {
                sum += nodes[i].queue.size;
            }
            return sum;
        }

        boolean isSuspect(int node) {
            long patience = nodes[node].patience;
            long repeats = nodes[node].repeats;
            long patienceOfOthers = 0;
            long repeatsOfOthers = 0;
            for (int i = 0; i < count; i++) {
                if (i != node) {
                    patienceOfOthers += nodes[i].patience;
                    repeatsOfOthers += nodes[i].repeats;
                }
            }
            return repeats >= 3 && 4 * patience * repeatsOfOthers < patienceOfOthers * repeats;
        }

        int fewestCovering() {
            int best = everyone();
            for (int set = 0; set < everyone(); set++) {
                if (Integer.bitCount(set) < Integer.bitCount(best) && isCovering(set)) {
                    best = set;
                }
            }
            return best;
        }

        private boolean isCovering(int set) {
            int reached = set;
            for (int i = 0; i < count; i++) {
                if (isIn(set, i)) {
                    reached |= hearers[i];
                }
            }
            return reached == everyone();
        }
    }

    private static final class Routes {
        private static final int CIRCLE = -2;
        private final Land land;
        private int[][] costs = new int[MAX_NODES][MAX_NODES];
        private int[][] nexts = new int[MAX_NODES][MAX_NODES];
        private int[][] newCosts = new int[MAX_NODES][MAX_NODES];
        private int[][] newNexts = new int[MAX_NODES][MAX_NODES];
        int exchanges = 0;

        Routes(Land land) {
            this.land = land;
            for (int i = 0; i < MAX_NODES; i++) {
                for (int j = 0; j < MAX_NODES; j++) {
                    costs[i][j] = NONE;
                    nexts[i][j] = NONE;
                    newCosts[i][j] = NONE;
                    newNexts[i][j] = NONE;
                }
            }
        }

        int costOf(int node, int other) {
            return land.isNode(node) && land.isNode(other) ? costs[node][other] : NONE;
        }

        int nextOf(int node, int other) {
            return land.isNode(node) && land.isNode(other) ? nexts[node][other] : NONE;
        }

        /** The new routes are found from the old ones of all nodes, so they are written beside them. */
        void renew() {
            for (int i = 0; i < land.count; i++) {
                for (int j = 0; j < land.count; j++) {
                    if (i != j) {
                        renewPair(i, j);
                    }
                }
            }
            int[][] oldCosts = costs;
            int[][] oldNexts = nexts;
            costs = newCosts;
            nexts = newNexts;
            newCosts = oldCosts;
            newNexts = oldNexts;
            exchanges++;
        }

        private void renewPair(int node, int other) {
            int next = NONE;
            int cost = NONE;
            if (land.areLinked(node, other)) {
                next = other;
                cost = 1;
            } else {
                int over = cheapestNeighbour(node, other);
                if (over != NONE && costs[over][other] + 1 <= MAX_COST) {
                    next = over;
                    cost = costs[over][other] + 1;
                }
            }
            newNexts[node][other] = next;
            newCosts[node][other] = cost;
        }

        private int cheapestNeighbour(int node, int other) {
            int best = NONE;
            for (int i = 0; i < land.count; i++) {
                boolean offers = nexts[i][other] != NONE && nexts[i][other] != node && land.areLinked(i, node);
                if (offers && (best == NONE || costs[i][other] < costs[best][other])) {
                    best = i;
                }
            }
            return best;
        }

        /** How many nodes the way comes to; NONE without a way or with a circle. */
        int wayLength(int node, int other) {
            int length = follow(node, other);
            return length == CIRCLE ? NONE : length;
        }

        boolean hasCircle(int node, int other) {
            return follow(node, other) == CIRCLE;
        }

        /** A way that has not ended after as many nodes as there can be comes to one of them twice. */
        private int follow(int node, int other) {
            int at = node;
            for (int length = 1; length <= MAX_NODES; length++) {
                if (at == other) {
                    return length;
                }
                at = nextOf(at, other);
                if (!land.isNode(at)) {
                    return NONE;
                }
            }
            return CIRCLE;
        }

        int pairsWithRoute() {
            int pairs = 0;
            for (int i = 0; i < land.count; i++) {
                for (int j = 0; j < land.count; j++) {
                    if (i != j && nexts[i][j] != NONE) {
                        pairs++;
                    }
                }
            }
            return pairs;
        }

        int pairsWithCircle() {
            int pairs = 0;
            for (int i = 0; i < land.count; i++) {
                for (int j = 0; j < land.count; j++) {
                    if (i != j && hasCircle(i, j)) {
                        pairs++;
                    }
                }
            }
            return pairs;
        }

        boolean areInOrder(int node) {
            for (int i = 0; i < land.count; i++) {
                int next = nexts[node][i];
                if (next == NONE) {
                    continue;
                }
                if (!land.isNode(next) || next == node || !isWithin(costs[node][i], 1, MAX_COST)) {
                    return false;
                }
            }
            return true;
        }
    }

    private static final class Traffic {
        private final Land land;
        private final Routes routes;
        int slot = 0;
        int luck = 41;
        int deliveries = 0;
        int doubles = 0;
        int dropped = 0;

        Traffic(Land land, Routes routes) {
            this.land = land;
            this.routes = routes;
        }

        int senders() {
            int set = 0;
            for (int i = 0; i < land.count; i++) {
                if (land.nodes[i].isSending()) {
                    set |= 1 << i;
                }
            }
            return set;
        }

        void goBy() {
            slot++;
            int earlier = senders();
            for (int i = 0; i < land.count; i++) {
                if (!isIn(earlier, i) && !land.hearsOneOf(i, earlier)) {
                    takeTurn(i);
                }
            }
            int senders = senders();
            for (int i = 0; i < land.count; i++) {
                if (isIn(senders, i)) {
                    goOn(i, senders);
                }
            }
            for (int i = 0; i < land.count; i++) {
                if (isIn(senders, i) && !land.nodes[i].isSending()) {
                    end(i);
                }
            }
        }

        private void takeTurn(int number) {
            Node node = land.nodes[number];
            Frame frame = node.queue.at(0);
            if (frame == null) {
                return;
            }
            if (node.waiting > 0) {
                node.waiting--;
                return;
            }
            int next = routes.nextOf(number, frame.to);
            if (next == NONE) {
                dropFirst(node);
            } else {
                node.begin(frame.length, next);
            }
        }

        private void goOn(int number, int senders) {
            Node node = land.nodes[number];
            node.slotsSent++;
            node.toCome--;
            if (!land.isNode(node.next) || !land.gets(node.next, number, senders)) {
                node.nextGotAll = false;
            }
        }

        private void end(int number) {
            Node node = land.nodes[number];
            int next = node.next;
            node.next = NONE;
            Frame frame = node.queue.at(0);
            if (frame == null || !land.isNode(next)) {
                return;
            }
            if (node.nextGotAll) {
                receive(next, frame);
            }
            if (node.nextGotAll && land.canHear(number, next)) {
                node.finishFirst();
            } else {
                tryAgain(node);
            }
        }

        private void tryAgain(Node node) {
            node.tries++;
            if (node.tries >= MAX_TRIES) {
                dropFirst(node);
            } else {
                node.waitAgain(node.isCheat ? 0 : draw(1 << (node.tries + 1)));
            }
        }

        private void receive(int number, Frame frame) {
            if (frame.to == number) {
                arrive(frame);
                return;
            }
            if (frame.hops >= MAX_HOPS || !pushCopy(land.nodes[number].queue, frame)) {
                dropped++;
            }
        }

        private static boolean pushCopy(FrameQueue queue, Frame frame) {
            return queue.add(frame.from, frame.to, frame.length, frame.number, frame.hops + 1);
        }

        private void arrive(Frame frame) {
            if (!land.isNode(frame.from)) {
                return;
            }
            NumberSet arrivals = land.nodes[frame.from].arrivals;
            if (arrivals.has(frame.number)) {
                doubles++;
            } else {
                arrivals.put(frame.number);
                deliveries++;
            }
        }

        private void dropFirst(Node node) {
            node.finishFirst();
            dropped++;
        }

        private int draw(int many) {
            luck = (109 * luck + 57) % 512;
            return luck * many / 512;
        }
    }

    /**
     * The bids, with every set of them weighed as it becomes possible. Sets come by rising numbers,
     * so of those that are worth the same the first one weighed has the smallest number.
     */
    private static final class Market {
        private static final int SETS = 1 << MAX_BIDS;
        private final int[] bidders = new int[MAX_BIDS];
        private final int[] prices = new int[MAX_BIDS];
        /** Of each set what may be in it once only: its channels, and its bidders in the bits above. */
        private final int[] taken = new int[SETS];
        /** Of each set its prices together; NONE if two of its bids exclude each other. */
        private final int[] worth = new int[SETS];
        /** Of each bidder what the winners would have together without its bids. */
        private final int[] worthWithout = new int[BIDDERS];
        int count = 0;
        int winners = 0;
        int mostWorth = 0;
        int paidEver = 0;

        int add(int bidder, int channels, int price) {
            int number = count;
            count++;
            bidders[number] = bidder;
            prices[number] = price;
            int need = channels | 1 << (CHANNELS + bidder);
            int bit = 1 << number;
            for (int rest = 0; rest < bit; rest++) {
                int set = rest | bit;
                if (worth[rest] == NONE || (taken[rest] & need) != 0) {
                    worth[set] = NONE;
                } else {
                    worth[set] = worth[rest] + price;
                    taken[set] = taken[rest] | need;
                    weigh(set);
                }
            }
            return number;
        }

        private void weigh(int set) {
            if (worth[set] > mostWorth) {
                mostWorth = worth[set];
                winners = set;
            }
            for (int bidder = 0; bidder < BIDDERS; bidder++) {
                if (!isIn(taken[set], CHANNELS + bidder) && worth[set] > worthWithout[bidder]) {
                    worthWithout[bidder] = worth[set];
                }
            }
        }

        /** What a bidder has bid among the winners; 0 if nothing. */
        private int winningPrice(int bidder) {
            for (int i = 0; i < count; i++) {
                if (isIn(winners, i) && bidders[i] == bidder) {
                    return prices[i];
                }
            }
            return 0;
        }

        int paidBy(int bidder) {
            int price = winningPrice(bidder);
            return price == 0 ? 0 : worthWithout[bidder] - (mostWorth - price);
        }

        boolean nobodyOverpays() {
            for (int bidder = 0; bidder < BIDDERS; bidder++) {
                if (paidBy(bidder) > winningPrice(bidder)) {
                    return false;
                }
            }
            return true;
        }

        int sellAll() {
            int sum = 0;
            for (int bidder = 0; bidder < BIDDERS; bidder++) {
                sum += paidBy(bidder);
            }
            paidEver += sum;
            forgetBids();
            return sum;
        }

        /** What is known of the sets may stay: a set is weighed anew before it is looked at again. */
        private void forgetBids() {
            for (int bidder = 0; bidder < BIDDERS; bidder++) {
                worthWithout[bidder] = 0;
            }
            count = 0;
            winners = 0;
            mostWorth = 0;
        }
    }
}
