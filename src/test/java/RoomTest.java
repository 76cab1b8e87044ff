import java.lang.management.ManagementFactory;

/** All calls of a run share one room: what the dearest calls make is counted in bytes. */
public final class RoomTest {
    private static final long MOST_BYTES = 50_000;
    /** An object is used for at most 512 calls. */
    private static final int ROUNDS = 60;

    private static long made() {
        com.sun.management.ThreadMXBean bean =
                (com.sun.management.ThreadMXBean) ManagementFactory.getThreadMXBean();
        return bean.getCurrentThreadAllocatedBytes();
    }

    private static BookIndex full() {
        BookIndex x = new BookIndex();
        for (int i = 0; i < 12; i++) {
            Check.book(x, "book 1 at " + 100 * i + " for 100 every 1 days from 2000 1 1");
        }
        return x;
    }

    private static void dearest() {
        BookIndex x = full();
        long before = made();
        for (int i = 0; i < ROUNDS; i++) {
            x.roomClash(1, i, 0);
            x.clashes(0, 1, 100, 499);
            x.onAt(-1, 0, 86400, 500, 0);
            x.free(1, i, 4320);
            x.busiest(1, 0, 59);
            x.image(i % 2);
            x.back(i % 2);
        }
        Check.due("the dearest calls made too much", made() - before > MOST_BYTES, false);
    }

    private static void books() {
        BookIndex x = full();
        byte[] text = "book 1 at 0 for 1 every 1 months on 1 from 2000 1 1     ".getBytes(
                java.nio.charset.StandardCharsets.ISO_8859_1);
        long before = made();
        for (int i = 0; i < ROUNDS; i++) {
            x.cancel(11);
            for (int k = 0; k < text.length; k += 24) {
                x.feed(Check.eight(text, k), Check.eight(text, k + 8), Check.eight(text, k + 16));
            }
            x.end(text.length);
            Check.due("book", x.book(), 11);
        }
        Check.due("books made too much", made() - before > MOST_BYTES, false);
    }

    public static void main(String[] args) {
        dearest();
        books();
        Check.close();
    }
}
