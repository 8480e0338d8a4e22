import java.io.IOException;
import java.lang.reflect.Method;
import java.nio.file.Files;
import java.nio.file.Path;
import java.util.ArrayList;
import java.util.Arrays;
import java.util.List;
import java.util.TreeSet;

/** What README.md says that the calls of its example answer, and which calls throw. It is run from the project's directory. */
public final class ReadmeTest {
    private static final Check check = new Check();

    public static void main(String[] args) throws IOException {
        example();
        tableOfWhatIsThrown();
        tableOfTests();
        check.end();
    }

    private static void example() {
        Sharedair air = new Sharedair();
        check.same("a", air.node(0, 0, 5, false), 0);
        check.same("b", air.node(4, 0, 5, false), 1);
        check.same("c", air.node(8, 0, 5, false), 2);
        check.same("LINKED with a", air.ofNode(0, 14), 2);
        check.same("LINKED with c", air.ofNode(2, 14), 2);
        check.same("exchange(2)", air.exchange(2), 6);
        check.same("route(a, c, 1)", air.route(0, 2, 1), 1);
        check.same("send(a, c, 2)", air.send(0, 2, 2), 0);
        check.same("pass(2)", air.pass(2), 2);
        check.same("row()", air.row(), ".q.");
        check.same("pass(2)", air.pass(2), 4);
        check.same("delivered(a, number)", air.delivered(0, 0), true);
        check.same("bid(0, 3, 50)", air.bid(0, 3, 50), 0);
        check.same("bid(1, 1, 30)", air.bid(1, 1, 30), 1);
        check.same("auction(0)", air.auction(0), 1);
        check.same("sell()", air.sell(), 30);
    }

    /** The cells of the rows that begin like this, the first cell's code without its quotes. */
    private static List<String[]> rows(String beginning) throws IOException {
        List<String[]> rows = new ArrayList<>();
        for (String line : Files.readAllLines(Path.of("README.md"))) {
            if (line.startsWith(beginning)) {
                String[] cells = line.substring(1).split("\\|");
                for (int i = 0; i < cells.length; i++) {
                    cells[i] = cells[i].trim();
                }
                rows.add(cells);
            }
        }
        return rows;
    }

    private static void tableOfWhatIsThrown() throws IOException {
        String[] names = {"IndexOutOfBoundsException", "IllegalArgumentException", "IllegalStateException"};
        TreeSet<String> told = new TreeSet<>();
        for (String[] cells : rows("| `")) {
            if (cells.length != 4) {
                continue;
            }
            String call = cells[0].substring(1, cells[0].indexOf('('));
            for (int i = 0; i < names.length; i++) {
                if (!cells[i + 1].isEmpty()) {
                    told.add(call + " " + names[i]);
                }
            }
        }
        TreeSet<String> due = new TreeSet<>();
        for (Method method : Sharedair.class.getMethods()) {
            for (Class<?> thrown : method.getExceptionTypes()) {
                if (method.getDeclaringClass() == Sharedair.class) {
                    due.add(method.getName() + " " + thrown.getSimpleName());
                }
            }
        }
        check.same("what README.md says is thrown", told, due);
    }

    private static void tableOfTests() throws IOException {
        TreeSet<String> told = new TreeSet<>();
        for (String[] cells : rows("| ")) {
            if (cells[0].endsWith("Test")) {
                told.add(cells[0] + ".java");
            }
        }
        TreeSet<String> due = new TreeSet<>(Arrays.asList(Path.of("src/test/java").toFile().list()));
        due.removeIf(name -> !name.endsWith("Test.java"));
        check.same("the tests that README.md lists", told, due);
    }
}
