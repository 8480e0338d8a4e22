import java.lang.reflect.InvocationTargetException;
import java.lang.reflect.Method;
import java.util.Arrays;
import java.util.Map;
import java.util.TreeMap;

/**
 * Promises 2 to 25 over long runs of calls, held against the model: each call answers, or throws, what the model does.
 * After every call that may change something digest() is asked too, so isSound() is asked in every state of a run.
 * No object is asked more than 512 times: what later calls answer is free.
 */
public final class ModelTest {
    private static final int CALLS = 512;
    private static final Check check = new Check();
    private static final Map<String, Integer> happened = new TreeMap<>();
    private static final Map<String, Method> real = new TreeMap<>();
    private static final Map<String, Method> due = new TreeMap<>();
    private static final String[] RADIO = {"send", "send", "send", "send", "send", "pass", "pass", "pass", "exchange",
        "move", "tune"};
    private static final String[] BIDS = {"bid", "bid", "bid", "bid", "bid", "bid", "bid", "bid", "sell", "knock"};
    private static final String[] ASKED = {"hears", "ofNode", "inQueue", "inQueue", "route", "air", "delivered",
        "delivered", "fairness", "row", "would", "would", "throughput", "bestChance", "auction", "cover", "isSound"};
    private static final String[] ALL = {"node", "move", "tune", "send", "pass", "exchange", "bid", "sell", "knock",
        "hears", "ofNode", "inQueue", "route", "air", "delivered", "fairness", "row", "would", "throughput",
        "bestChance", "auction", "cover", "isSound", "digest"};
    private static final int[] WILD = {Integer.MIN_VALUE, -2, -1, 0, 1, 2, 3, 4, 5, 6, 7, 8, 9, 10, 11, 12, 13, 15, 16,
        20, 21, 29, 30, 31, 32, 42, 43, 63, 64, 100, 101, 200, 201, 255, 256, 511, 512, 999, 1000, 1 << 30, (1 << 30) + 1,
        Integer.MAX_VALUE};
    private static long seed = 1;

    private final Sharedair air = new Sharedair();
    private final Model model = new Model(happened);
    private final int span;
    private int calls = 0;
    private int nodes = 0;

    private ModelTest(int span) {
        this.span = span;
    }

    public static void main(String[] args) throws ReflectiveOperationException {
        for (String name : ALL) {
            due.put(name, declared(name));
            real.put(name, Sharedair.class.getMethod(name, due.get(name).getParameterTypes()));
        }
        for (int run = 0; run < 60; run++) {
            new ModelTest(random(2, 29)).radiosRun();
            new ModelTest(random(2, 29)).radiosRun();
            new ModelTest(random(2, 29)).lostNodesRun();
            new ModelTest(29).lineRun();
            new ModelTest(29).bidsRun();
            new ModelTest(random(2, 29)).wildRun();
        }
        allHappened();
        check.end();
    }

    private static Method declared(String name) {
        for (Method method : Model.class.getDeclaredMethods()) {
            if (method.getName().equals(name) && !java.lang.reflect.Modifier.isPrivate(method.getModifiers())) {
                return method;
            }
        }
        throw new AssertionError("the model has no " + name);
    }

    private static int random(int least, int most) {
        seed = seed * 6364136223846793005L + 1442695040888963407L;
        return least + (int) ((seed >>> 33) % (most - least + 1));
    }

    private static String oneOf(String[] names) {
        return names[random(0, names.length - 1)];
    }

    private void setUp(int many) throws ReflectiveOperationException {
        for (int i = 0; i < many; i++) {
            ask("node", arguments("node"));
            nodes++;
        }
        ask("exchange", 1);
        ask("exchange", random(1, 10));
    }

    private void radiosRun() throws ReflectiveOperationException {
        setUp(random(2, 7));
        while (calls < CALLS - 3) {
            if (nodes < 8 && random(0, 99) == 0) {
                ask("node", arguments("node"));
                nodes++;
            }
            step(random(0, 9) == 0 ? ASKED : random(0, 39) == 0 ? BIDS : RADIO);
        }
        ask("digest");
    }

    /** Nodes that move away leave ROUTES behind, and EXCHANGES that come seldom leave CIRCLES. */
    private void lostNodesRun() throws ReflectiveOperationException {
        setUp(random(4, 8));
        while (calls < CALLS - 24) {
            int lost = random(0, nodes - 1);
            ask("move", lost, random(0, 29), random(0, 29));
            ask("exchange", random(1, 4));
            for (int i = 0; i < 4; i++) {
                int from = random(0, nodes - 1);
                ask("send", from, random(0, 3) > 0 ? lost : random(0, nodes - 1), random(1, 3));
            }
            ask("digest");
            for (int i = 0; i < random(1, 16); i++) {
                ask("pass", 1);
            }
            ask("digest");
        }
    }

    /** FRAMES go over many hops, in both directions. */
    private void lineRun() throws ReflectiveOperationException {
        for (nodes = 0; nodes < 8; nodes++) {
            ask("node", 4 * nodes, random(0, 1), random(4, 5), flag());
        }
        ask("exchange", 8);
        while (calls < CALLS - 14) {
            for (int i = 0; i < random(1, 3); i++) {
                ask("send", someNode(), someNode(), random(1, 2));
            }
            for (int i = 0; i < 5; i++) {
                ask("pass", random(1, 8));
                ask("digest");
            }
            ask("exchange", 1);
        }
    }

    private void bidsRun() throws ReflectiveOperationException {
        while (calls < CALLS - 1) {
            step(random(0, 2) == 0 ? ASKED : BIDS);
        }
    }

    private void wildRun() throws ReflectiveOperationException {
        setUp(random(0, 6));
        while (calls < CALLS - 1) {
            String name = oneOf(ALL);
            Object[] arguments = arguments(name);
            for (int i = 0; i < arguments.length; i++) {
                if (arguments[i] instanceof Integer && random(0, 3) == 0) {
                    arguments[i] = WILD[random(0, WILD.length - 1)];
                }
            }
            ask(name, arguments);
            nodes = model.air(1);
            ask("digest");
        }
    }

    private void step(String[] names) throws ReflectiveOperationException {
        String name = oneOf(names);
        if (ask(name, arguments(name)) && names != ASKED) {
            ask("digest");
        }
    }

    private static boolean flag() {
        return random(0, 3) == 0;
    }

    private int place() {
        return random(0, span);
    }

    private int someNode() {
        return random(0, Math.max(0, nodes - 1));
    }

    private Object[] arguments(String name) {
        int node = someNode();
        switch (name) {
            case "node": return new Object[] {place(), place(), random(1, 20), flag()};
            case "move": return new Object[] {node, place(), place()};
            case "tune": return new Object[] {node, random(1, 20), flag()};
            case "send": return new Object[] {node, someNode(), random(1, 3)};
            case "pass": return new Object[] {random(0, 29) == 0 ? random(20, 200) : random(1, 4)};
            case "exchange": return new Object[] {random(0, 4) == 0 ? random(1, 10) : 1};
            case "bid": return new Object[] {random(0, 4), channels(), random(1, 30) * random(1, 33)};
            case "hears": return new Object[] {node, someNode()};
            case "ofNode": return new Object[] {node, random(0, 15)};
            case "inQueue": return new Object[] {node, random(0, 4), random(0, 4)};
            case "route": return new Object[] {node, someNode(), random(0, 3)};
            case "air": return new Object[] {random(0, 12)};
            case "delivered": return new Object[] {node, random(0, nodes == 0 ? 1 : model.ofNode(node, 15))};
            case "would": return new Object[] {random(0, (1 << nodes) - 1) & ~(1 << node), node};
            case "throughput": return new Object[] {random(1, 20), random(0, 100)};
            case "bestChance": return new Object[] {random(1, 20)};
            case "auction": return new Object[] {random(0, 6)};
            default: return new Object[0];
        }
    }

    private static int channels() {
        return random(0, 2) == 0 ? random(1, 63) : 1 << random(0, 5) | 1 << random(0, 5);
    }

    /** Asks both the same; true if that was answered, and not refused. */
    private boolean ask(String name, Object... arguments) throws ReflectiveOperationException {
        if (calls >= CALLS) {
            throw new AssertionError("more than 512 calls");
        }
        calls++;
        Object answer = answer(due.get(name), model, arguments);
        String what = name + Arrays.toString(arguments) + " as call " + calls;
        check.same(what, answer(real.get(name), air, arguments), answer);
        return !(answer instanceof Class);
    }

    private static Object answer(Method method, Object object, Object... arguments) throws ReflectiveOperationException {
        try {
            return method.invoke(object, arguments);
        } catch (InvocationTargetException e) {
            return e.getCause().getClass();
        }
    }

    /** The runs have come to each of these cases many times, so that what is held against the model is not little. */
    private static void allHappened() {
        String[] cases = {"not got, as another one is near", "got, as the other one is far", "dropped without a route",
            "dropped without a route, with tries", "known, tries 0", "known, tries 1", "known, tries 2", "known, tries 3",
            "known, tries 4", "received, but not known", "not received", "dropped at the fifth try", "repeats, tries 1",
            "repeats, tries 2", "repeats, tries 3", "repeats, tries 4", "repeats of a cheat, tries 1",
            "repeats of a cheat, tries 4", "delivered, hops 0", "delivered, hops 1", "delivered, hops 2",
            "delivered, hops 3", "delivered, hops 4", "doubles", "dropped with seven hops", "dropped, the queue is full",
            "a route over another one", "no route, as its cost would be above 8", "suspect", "circle"};
        for (String what : cases) {
            check.same(what + ", 20 times or more", happened.getOrDefault(what, 0) >= 20, true);
        }
    }
}
