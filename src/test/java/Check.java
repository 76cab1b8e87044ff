import java.nio.charset.StandardCharsets;
import java.util.NoSuchElementException;

/** What every test of the project uses: answers compared, texts put on a tape. */
final class Check {
    private static int checked = 0;
    private static int wrong = 0;
    private static String sentence = "";

    private Check() {
    }

    /** The document's words that the answers from here on are due by. */
    static void says(String words) {
        sentence = "\"" + words + "\": ";
    }

    static void due(String call, long got, long want) {
        checked++;
        if (got != want) {
            wrong++;
            System.out.println(sentence + call + " answered " + got + ", due is " + want);
        }
    }

    static void due(String call, boolean got, boolean want) {
        due(call, got ? 1 : 0, want ? 1 : 0);
    }

    /** Puts a text on an empty tape, whatever its length up to 168. */
    static void put(BookIndex x, String text) {
        byte[] bytes = text.getBytes(StandardCharsets.ISO_8859_1);
        x.end(0);
        for (int i = 0; i < bytes.length; i += 24) {
            x.feed(eight(bytes, i), eight(bytes, i + 8), eight(bytes, i + 16));
        }
        due("end of '" + text + "'", x.end(bytes.length), bytes.length);
    }

    static int book(BookIndex x, String text) {
        put(x, text);
        return x.book();
    }

    static long eight(byte[] bytes, int from) {
        long eight = 0;
        for (int i = from; i < from + 8; i++) {
            eight = eight << 8 | (i < bytes.length ? bytes[i] & 255 : 0);
        }
        return eight;
    }

    /** What onAt answers, or Long.MIN_VALUE if it throws as the document says. */
    static long onAt(BookIndex x, int room, int from, int to, int i, int what) {
        try {
            return x.onAt(room, from, to, i, what);
        } catch (NoSuchElementException e) {
            return Long.MIN_VALUE;
        }
    }

    static int time(int day, int minute) {
        return 1440 * day + minute;
    }

    static int wrongSoFar() {
        return wrong;
    }

    static void close() {
        System.out.println(checked + " answers looked at, " + wrong + " not as due");
        if (wrong != 0) {
            System.exit(1);
        }
    }
}
