import java.io.IOException;
import java.lang.reflect.Method;
import java.nio.file.Files;
import java.nio.file.Path;
import java.util.ArrayList;
import java.util.List;

/** README.md tells every call of the face, and its example answers what stands behind each call; run from the project. */
final class ReadmeTest {
    private static final BandBoat BOAT = new BandBoat();
    private static final List<String> ROWS = new ArrayList<>();

    private ReadmeTest() {
    }

    public static void main(String[] args) throws IOException {
        String readme = Files.readString(Path.of("README.md"));
        everyCallIsTold(readme);
        for (String row : readme.split("\n")) {
            if (row.startsWith("x.") || row.startsWith("String text = ")) {
                ROWS.add(row);
            }
        }
        example();
        Check.due("rows of the example that nothing looked at", ROWS.size(), 0);
        Check.end("ReadmeTest");
    }

    private static void everyCallIsTold(String readme) {
        for (Method method : BandBoat.class.getDeclaredMethods()) {
            if (java.lang.reflect.Modifier.isPublic(method.getModifiers())) {
                Check.truth("README.md tells " + method.getName(), readme.contains("`" + method.getName() + "`"));
            }
        }
    }

    private static void example() {
        Check.put(BOAT, nextRow("String text = \"").split("\"")[0]);
        row("fault()", BOAT.fault());
        row("lay()", BOAT.lay());
        row("pull(900, false)", BOAT.pull(900, false));
        row("pull(900, true)", BOAT.pull(900, true));
        row("run(60, -1, 1)", BOAT.run(60, -1, 1));
        row("run(60, 31, 1)", BOAT.run(60, 31, 1));
        row("when(60, -1, 1000)", BOAT.when(60, -1, 1000));
        row("wise()", BOAT.wise());
        row("best(40, 60, 1)", BOAT.best(40, 60, 1));
        row("just(4000, 0)", BOAT.just(4000, 0));
        row("straight(60, 0)", BOAT.straight(60, 0));
        row("wind(60)", BOAT.wind(60));
        row("keep()", BOAT.keep());
        row("go(10, 31)", BOAT.go(10, 31));
        row("back()", BOAT.back());
        row("now(2)", BOAT.now(2));
        row("run(401, -1, 1)", BOAT.run(401, -1, 1));
    }

    /** The next row of the example is this call, with this answer behind it. */
    private static void row(String call, long answer) {
        String rest = nextRow("x." + call + ";").trim();
        Check.truth("README.md: " + call + " answers " + answer + " (" + rest + ")", rest.startsWith("// " + answer + ":"));
    }

    private static String nextRow(String start) {
        String row = ROWS.isEmpty() ? "" : ROWS.remove(0);
        Check.truth("README.md: a row that starts with " + start, row.startsWith(start));
        return row.startsWith(start) ? row.substring(start.length()) : "";
    }
}
