/** What an object answers, as one text, so that two states can be compared. It asks few calls: an object is for 512. */
final class Answers {
    private Answers() {
    }

    /** What digest() counts, and what it leaves out: the row, the FRAMES behind the first one, what was DELIVERED. */
    static String of(Sharedair air) {
        StringBuilder text = new StringBuilder();
        text.append(air.digest()).append(' ').append(air.row());
        for (int node = 0; node < air.air(1); node++) {
            text.append(" queue");
            for (int nth = 1; nth < air.ofNode(node, 4); nth++) {
                for (int what = 0; what <= 4; what++) {
                    text.append(' ').append(air.inQueue(node, nth, what));
                }
            }
            text.append(" delivered");
            for (int number = 0; number < air.ofNode(node, 15); number++) {
                text.append(' ').append(air.delivered(node, number));
            }
        }
        return text.toString();
    }

    /** What the object answers as it is used further: what no question tells would show here. */
    static String later(Sharedair air) {
        StringBuilder text = new StringBuilder();
        for (int slots = 1; slots <= 3 && air.air(0) <= 1990; slots++) {
            text.append(air.pass(slots)).append(' ');
        }
        text.append(air.exchange(1)).append(' ').append(air.knock()).append(' ');
        if (air.air(1) > 1 && air.ofNode(0, 4) < 4) {
            text.append(air.send(0, 1, 1)).append(' ');
        }
        if (air.air(1) < 8) {
            text.append(air.node(1, 1, 2, false)).append(' ');
        }
        if (air.air(9) < 10) {
            text.append(air.bid(0, 1, 5)).append(' ');
        }
        text.append(air.auction(0)).append(' ').append(air.sell()).append(' ');
        return text.append(of(air)).toString();
    }
}
