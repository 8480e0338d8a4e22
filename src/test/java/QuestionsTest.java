import java.util.function.Consumer;

/**
 * "What is asked" and "what would be (nothing is changed)": of two objects made alike one is asked a question with all
 * its arguments; both must answer alike then, at once and as they are used further.
 */
public final class QuestionsTest {
    private static final Check check = new Check();

    public static void main(String[] args) {
        ask(air -> { });
        ask(QuestionsTest::makeAlone);
        ask(QuestionsTest::makeBusy);
        ask(QuestionsTest::makeCircle);
        check.end();
    }

    private static void makeAlone(Sharedair air) {
        air.node(29, 29, 42, true);
    }

    /** 0 is sending over 1 to 2, 2 has a WAIT, 3 has collided as a CHEAT; there are BIDS. */
    private static void makeBusy(Sharedair air) {
        for (int i = 0; i < 4; i++) {
            air.node(4 * i, 0, 5, i == 3);
        }
        air.exchange(3);
        air.send(2, 3, 1);
        air.send(3, 2, 1);
        air.pass(1);
        air.send(0, 2, 3);
        air.send(0, 1, 2);
        air.pass(1);
        for (int i = 0; i < 8; i++) {
            air.bid(i % 5, 7 << i % 4, 20 + 3 * i);
        }
        air.knock();
    }

    private static void makeCircle(Sharedair air) {
        air.node(10, 10, 3, false);
        air.node(10, 12, 3, false);
        air.node(10, 15, 3, false);
        air.node(12, 10, 3, false);
        air.exchange(2);
        air.move(2, 29, 29);
        air.exchange(2);
        air.send(0, 2, 2);
        air.pass(3);
    }

    private static void asked(Consumer<Sharedair> ready, String what, Consumer<Sharedair> questions) {
        Sharedair air = new Sharedair();
        Sharedair twin = new Sharedair();
        ready.accept(air);
        ready.accept(twin);
        questions.accept(air);
        check.same("what is answered behind " + what, Answers.of(air), Answers.of(twin));
        check.same("what is answered later behind " + what, Answers.later(air), Answers.later(twin));
    }

    private static void ask(Consumer<Sharedair> ready) {
        asked(ready, "hears()", QuestionsTest::hears);
        asked(ready, "ofNode()", QuestionsTest::ofNode);
        asked(ready, "inQueue()", QuestionsTest::inQueue);
        asked(ready, "route()", QuestionsTest::route);
        asked(ready, "air()", air -> count(12, air::air));
        asked(ready, "delivered()", QuestionsTest::delivered);
        asked(ready, "fairness()", Sharedair::fairness);
        asked(ready, "row()", Sharedair::row);
        asked(ready, "would()", QuestionsTest::would);
        asked(ready, "throughput()", air -> count(100, chance -> air.throughput(1 + chance % 20, chance)));
        asked(ready, "bestChance()", air -> count(19, less -> air.bestChance(less + 1)));
        asked(ready, "auction()", air -> count(6, air::auction));
        asked(ready, "cover()", Sharedair::cover);
        asked(ready, "isSound()", Sharedair::isSound);
        asked(ready, "digest()", Sharedair::digest);
    }

    private static void count(int last, java.util.function.IntConsumer question) {
        for (int i = 0; i <= last; i++) {
            question.accept(i);
        }
    }

    private static void hears(Sharedair air) {
        int last = air.air(1) - 1;
        count(last, node -> count(last, other -> {
            if (node != other) {
                air.hears(node, other);
            }
        }));
    }

    private static void ofNode(Sharedair air) {
        count(air.air(1) - 1, node -> count(15, what -> air.ofNode(node, what)));
    }

    private static void inQueue(Sharedair air) {
        count(air.air(1) - 1, node -> count(4, nth -> count(4, what -> air.inQueue(node, nth, what))));
    }

    private static void route(Sharedair air) {
        int last = air.air(1) - 1;
        count(last, node -> count(last, other -> count(node == other ? -1 : 3, what -> air.route(node, other, what))));
    }

    private static void delivered(Sharedair air) {
        count(air.air(1) - 1, node -> count(air.ofNode(node, 15) - 1, number -> air.delivered(node, number)));
    }

    private static void would(Sharedair air) {
        int nodes = air.air(1);
        count(nodes - 1, node -> count((1 << nodes) - 1, senders -> {
            if ((senders >> node & 1) == 0) {
                air.would(senders, node);
            }
        }));
    }
}
