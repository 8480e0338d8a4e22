import java.io.IOException;
import java.lang.reflect.Constructor;
import java.lang.reflect.Field;
import java.lang.reflect.Method;
import java.lang.reflect.Modifier;
import java.nio.file.Files;
import java.nio.file.Path;
import java.util.ArrayList;
import java.util.Arrays;
import java.util.List;
import java.util.TreeSet;

/** "The public face", and the lines that the interface says ahead of its calls. It is run from the project's directory. */
public final class FaceTest {
    private static final Check check = new Check();
    private static final String[] FACE = {
        "int node(int, int, int, boolean) throws IllegalArgumentException, IllegalStateException",
        "int move(int, int, int) throws IndexOutOfBoundsException, IllegalArgumentException, IllegalStateException",
        "int tune(int, int, boolean) throws IndexOutOfBoundsException, IllegalArgumentException, IllegalStateException",
        "int send(int, int, int) throws IndexOutOfBoundsException, IllegalArgumentException, IllegalStateException",
        "int pass(int) throws IllegalArgumentException, IllegalStateException",
        "int exchange(int) throws IllegalArgumentException",
        "int bid(int, int, int) throws IllegalArgumentException, IllegalStateException",
        "int sell()",
        "int knock()",
        "boolean hears(int, int) throws IndexOutOfBoundsException, IllegalArgumentException",
        "int ofNode(int, int) throws IndexOutOfBoundsException, IllegalArgumentException",
        "int inQueue(int, int, int) throws IndexOutOfBoundsException, IllegalArgumentException",
        "int route(int, int, int) throws IndexOutOfBoundsException, IllegalArgumentException",
        "int air(int) throws IllegalArgumentException",
        "boolean delivered(int, int) throws IndexOutOfBoundsException",
        "double fairness()",
        "String row()",
        "int would(int, int) throws IndexOutOfBoundsException, IllegalArgumentException",
        "double throughput(int, int) throws IllegalArgumentException",
        "int bestChance(int) throws IllegalArgumentException",
        "int auction(int) throws IllegalArgumentException",
        "int cover()",
        "boolean isSound()",
        "long digest()"};
    private static final String[] ORDER = {"Sharedair",
        "---- nodes and slots", "node", "move", "tune", "send", "pass", "exchange",
        "---- bids", "bid", "sell", "knock",
        "---- what is asked", "hears", "ofNode", "inQueue", "route", "air", "delivered", "fairness", "row",
        "---- what would be (nothing is changed)", "would", "throughput", "bestChance", "auction", "cover", "isSound",
        "digest"};

    public static void main(String[] args) throws IOException {
        classIsPublicAndFinal();
        oneConstructor();
        callsAreThoseOfTheDocument();
        noOtherMemberIsSeen();
        linesAheadOfTheCalls();
        check.end();
    }

    private static void classIsPublicAndFinal() {
        int modifiers = Sharedair.class.getModifiers();
        check.same("modifiers", Modifier.toString(modifiers), "public final");
        check.same("package", Sharedair.class.getPackageName(), "");
        check.same("its superclass", Sharedair.class.getSuperclass(), Object.class);
        check.same("its interfaces", Sharedair.class.getInterfaces().length, 0);
    }

    private static void oneConstructor() {
        Constructor<?>[] all = Sharedair.class.getDeclaredConstructors();
        check.same("constructors", Arrays.toString(all), "[public Sharedair()]");
    }

    private static String types(Class<?>[] types) {
        List<String> names = new ArrayList<>();
        for (Class<?> type : types) {
            names.add(type.getSimpleName());
        }
        return String.join(", ", names);
    }

    private static String text(Method method) {
        String thrown = types(method.getExceptionTypes());
        return method.getReturnType().getSimpleName() + " " + method.getName() + "(" + types(method.getParameterTypes())
            + ")" + (thrown.isEmpty() ? "" : " throws " + thrown);
    }

    private static void callsAreThoseOfTheDocument() {
        TreeSet<String> got = new TreeSet<>();
        for (Method method : Sharedair.class.getDeclaredMethods()) {
            if (!Modifier.isPrivate(method.getModifiers()) && !method.isSynthetic()) {
                check.same("modifiers of " + method.getName(), Modifier.toString(method.getModifiers()), "public");
                got.add(text(method));
            } else {
                check.same(method.getName() + " is a call too", Arrays.asList(ORDER).contains(method.getName()), false);
            }
        }
        check.same("the face", got, new TreeSet<>(Arrays.asList(FACE)));
    }

    private static void noOtherMemberIsSeen() {
        for (Field field : Sharedair.class.getDeclaredFields()) {
            check.same(field.getName() + " is private", Modifier.isPrivate(field.getModifiers()), true);
        }
        for (Class<?> inside : Sharedair.class.getDeclaredClasses()) {
            int modifiers = inside.getModifiers();
            check.same(inside + " is seen", Modifier.isPublic(modifiers) || Modifier.isProtected(modifiers), false);
        }
    }

    private static void linesAheadOfTheCalls() throws IOException {
        List<String> got = new ArrayList<>();
        for (String line : Files.readAllLines(Path.of("src/main/java/Sharedair.java"))) {
            if (line.startsWith("    // ----")) {
                got.add(line.substring("    // ".length()));
            } else if (line.startsWith("    public ")) {
                String ahead = line.substring(0, line.indexOf('('));
                got.add(ahead.substring(ahead.lastIndexOf(' ') + 1));
            }
        }
        check.same("lines and calls of the interface", got, Arrays.asList(ORDER));
    }
}
