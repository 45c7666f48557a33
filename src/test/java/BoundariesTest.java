import java.lang.reflect.Method;
import java.nio.file.Files;
import java.nio.file.Path;
import java.util.HashSet;
import java.util.List;
import java.util.Set;
import java.util.regex.Matcher;
import java.util.regex.Pattern;

/** BOUNDARIES.md names tests that are there, for every promise; no edge test is left out of it. */
public final class BoundariesTest {
    private static final Check CHECK = new Check("BoundariesTest");
    private static final String[] EDGES = {"TownEdgesTest", "StandingEdgesTest", "FiresEdgesTest", "HousesEdgesTest",
        "ShelvesEdgesTest"};
    // These look at more than one boundary's sentence, or at helpers of their own.
    private static final Set<String> NO_SENTENCE = Set.of("main", "oneDay", "questionsLeaveNothing");

    public static void main(String[] args) throws Exception {
        List<String> lines = Files.readAllLines(Path.of("src/test/BOUNDARIES.md"));
        Set<String> named = namedTests(lines);
        for (String test : named) {
            String[] parts = test.split("\\.");
            CHECK.same(test + " is there", methods(parts[0]).contains(parts[1]) ? 1 : 0, 1);
        }
        for (int promise = 1; promise <= 46; promise++) {
            CHECK.same("rows of promise " + promise, rowsOf(promise, lines), 1);
        }
        for (String edges : EDGES) {
            for (String method : methods(edges)) {
                boolean due = NO_SENTENCE.contains(method) || named.contains(edges + "." + method);
                CHECK.same(edges + "." + method + " is named", due ? 1 : 0, 1);
            }
        }
        CHECK.end();
    }

    private static Set<String> namedTests(List<String> lines) {
        Set<String> named = new HashSet<>();
        for (String line : lines) {
            Matcher m = Pattern.compile("`([A-Z]\\w+Test\\.\\w+)`").matcher(line);
            while (m.find()) {
                named.add(m.group(1));
            }
        }
        return named;
    }

    private static int rowsOf(int promise, List<String> lines) {
        int rows = 0;
        for (String line : lines) {
            rows += line.startsWith("| " + promise + " |") && line.contains("Test.") ? 1 : 0;
        }
        return rows;
    }

    private static Set<String> methods(String test) throws ClassNotFoundException {
        Set<String> names = new HashSet<>();
        for (Method m : Class.forName(test).getDeclaredMethods()) {
            names.add(m.getName());
        }
        return names;
    }
}
