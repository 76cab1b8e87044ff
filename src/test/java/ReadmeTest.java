import java.io.IOException;
import java.nio.file.Files;
import java.nio.file.Path;
import java.util.List;

/** README.md's example, call by call: the answer is the one that stands there behind the call. */
public final class ReadmeTest {
    private static final String TWO_WEEKS =
            "book 2 at 570 for 90 every 2 weeks mon wed from 2024 3 4 until 2024 4 30";
    private static final String LAST_MONDAY = "book 2 at 600 for 60 every 1 months last mon from 2024 1 1 times 12";
    private static final String NO_ROOM = "book 9 at 0 for 30 once from 2024 1 1";

    private final List<String> lines;
    private int line = 0;

    private ReadmeTest(List<String> lines) {
        this.lines = lines;
    }

    /** Looks for the call from the last one's line on, so that the order is the same, too. */
    private void shown(String call, String got) {
        int at = line;
        while (at < lines.size() && !lines.get(at).startsWith(call + ";")) {
            at++;
        }
        Check.due("README.md has " + call + " from line " + line + " on", at < lines.size(), true);
        if (at < lines.size()) {
            line = at + 1;
            String behind = lines.get(at).substring(call.length() + 1).strip();
            Check.due(call + " answered " + got + ", README.md has " + behind,
                    behind.matches("// " + got + "(?![0-9]).*"), true);
        }
    }

    private void shown(String call, int got) {
        shown(call, Integer.toString(got));
    }

    private void shown(String call, boolean got) {
        shown(call, Boolean.toString(got));
    }

    private void booked(BookIndex index, String text) {
        shown("put(index, \"" + text + "\")", Check.book(index, text));
    }

    private void example() {
        BookIndex index = new BookIndex();
        booked(index, TWO_WEEKS);
        booked(index, LAST_MONDAY);
        booked(index, NO_ROOM);
        shown("index.day(2024, 3, 4)", index.day(2024, 3, 4));
        shown("index.date(8829, 3)", index.date(8829, 3));
        shown("index.keys(0, 0, 36524)", index.keys(0, 0, 36524));
        shown("index.next(0, 12713760, 0)", index.next(0, 12713760, 0));
        shown("index.clash(0, 1, 0)", index.clash(0, 1, 0));
        shown("index.clashes(0, 1, 8829, 8900)", index.clashes(0, 1, 8829, 8900));
        shown("index.free(2, 12714330, 60)", index.free(2, 12714330, 60));
        shown("index.busy(2, 8829)", index.busy(2, 8829));
        shown("index.image(0)", index.image(0));
        shown("index.drop(0, 8885)", index.drop(0, 8885));
        shown("index.clash(0, 1, 0)", index.clash(0, 1, 0));
        shown("index.move(0, 8831, 12717300)", index.move(0, 8831, 12717300));
        shown("index.split(0, 8843)", index.split(0, 8843));
        shown("index.of(0, 13)", index.of(0, 13));
        shown("index.back(0)", index.back(0));
        shown("index.told(0)", index.told(0));
    }

    private void dates() {
        BookIndex index = new BookIndex();
        Check.due("29 April 2024", index.day(2024, 4, 29), 8885);
        Check.due("the clash of the example", Check.time(8885, 600), 12795000);
        Check.due("6 March 2024", index.day(2024, 3, 6), 8831);
        Check.due("where it is moved to", Check.time(8831, 660), 12717300);
        Check.due("18 March 2024", index.day(2024, 3, 18), 8843);
        Check.due("the free hour", Check.time(8829, 660), 12714420);
    }

    /** Each test of the project is told of, and no other one. */
    private void tables() throws IOException {
        int files = 0;
        try (var paths = Files.newDirectoryStream(Path.of("src/test/java"), "*Test.java")) {
            for (Path path : paths) {
                String name = path.getFileName().toString().replace(".java", "");
                files++;
                Check.due("README.md tells of " + name, lines.stream().anyMatch(l -> l.startsWith("| " + name + " |")), true);
            }
        }
        Check.due("tests told of", lines.stream().filter(l -> l.matches("\\| [A-Za-z]+Test \\|.*")).count(), files);
    }

    public static void main(String[] args) throws IOException {
        ReadmeTest test = new ReadmeTest(Files.readAllLines(Path.of("README.md")));
        test.example();
        test.dates();
        test.tables();
        Check.close();
    }
}
