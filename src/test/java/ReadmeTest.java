import java.io.IOException;
import java.nio.file.Files;
import java.nio.file.Path;
import java.util.ArrayList;
import java.util.List;

/** The calls that README.md shows answer as it says. */
public final class ReadmeTest {
    /** The rows of the example that are not looked at yet. */
    private final List<String> rows;
    private final TileScreen screen = new TileScreen();

    private ReadmeTest(List<String> rows) {
        this.rows = rows;
    }

    public static void main(String[] args) throws IOException {
        List<String> rows = new ArrayList<>();
        boolean inExample = false;
        for (String row : Files.readAllLines(Path.of("README.md"))) {
            if (row.startsWith("```")) {
                inExample = row.equals("```java");
            } else if (inExample) {
                rows.add(row);
            }
        }
        ReadmeTest test = new ReadmeTest(rows);
        test.firstFrame();
        test.spoiltFrame();
        test.frameSentAnew();
        Check.due("rows of README.md without a test", rows.size(), 0);
        Check.end();
    }

    /** The next row of the example has this call, and tells this answer behind it. */
    private void shows(String call, Object answer) {
        String row = rows.isEmpty() ? "" : rows.remove(0);
        String[] parts = row.split("; *// ", 2);
        Check.yes(call + " stands in README.md, in place of: " + row, parts[0].equals("screen." + call));
        String told = parts.length == 2 ? parts[1].split(":")[0] : "nothing";
        Check.yes(call + " answered " + answer + ", README.md tells " + told, told.equals(answer.toString()));
    }

    private void firstFrame() {
        Check.yes("a new object", rows.remove(0).equals("TileScreen screen = new TileScreen();"));
        shows("join(0)", screen.join(0));
        shows("fill(0, 0, 8, 8, 5)", screen.fill(0, 0, 8, 8, 5));
        shows("frame()", screen.frame());
        shows("credit(0, 1000)", screen.credit(0, 1000));
        shows("pump(0)", screen.pump(0));
        shows("shown(0)", screen.shown(0));
        shows("at(0, 7, 7)", screen.at(0, 7, 7));
        shows("at(TileScreen.NONE, 7, 7)", screen.at(TileScreen.NONE, 7, 7));
    }

    private void spoiltFrame() {
        shows("fill(0, 0, 8, 8, 6)", screen.fill(0, 0, 8, 8, 6));
        shows("frame()", screen.frame());
        shows("poison(0, 9, 1)", screen.poison(0, 9, 1));
        shows("pump(0)", screen.pump(0));
        shows("about(0, 0)", screen.about(0, 0));
        shows("shown(0)", screen.shown(0));
    }

    private void frameSentAnew() {
        shows("join(0)", screen.join(0));
        shows("credit(0, 1000)", screen.credit(0, 1000));
        shows("pump(0)", screen.pump(0));
        shows("at(0, 7, 7)", screen.at(0, 7, 7));
    }
}
