import java.util.NoSuchElementException;
import java.util.function.Supplier;

/** No call throws by itself, whatever its arguments and whatever the object holds; onAt alone throws as told. */
public final class WildTest {
    private static final int[] WILD = {Integer.MIN_VALUE, Integer.MIN_VALUE + 1, -36525, -2, -1, 0, 1, 2, 7, 8, 11, 12, 13,
        60, 400, 1440, 4320, 4321, 36524, 36525, 86400, 52595999, 52596000, Integer.MAX_VALUE - 1, Integer.MAX_VALUE};
    /** An object is used for at most 512 calls: so many here, and what it takes to make it. */
    private static final int MOST_CALLS = 350;

    private final Supplier<BookIndex> make;
    private BookIndex x;
    private int calls = 0;

    private WildTest(Supplier<BookIndex> make) {
        this.make = make;
        this.x = make.get();
    }

    private void done(String call, boolean as) {
        Check.due(call, as, true);
        calls++;
        if (calls == MOST_CALLS) {
            calls = 0;
            x = make.get();
        }
    }

    private void one(int a) {
        done("end " + a, x.end(a) == a || a < 0 || a > 168 || x.told(1) < a);
        done("told " + a, x.told(a) >= -1);
        done("period " + a, x.period(a) >= -1);
        done("image " + a, x.image(a) == (a == 0 || a == 1));
        done("back " + a, x.back(a) == (a == 0 || a == 1));
        done("cancel " + a, !x.cancel(a) || a >= 0 && a < 12);
        done("feed " + a, x.feed(a, -(long) a, (long) a << 32) >= -1);
        done("book behind " + a, x.book() < 12);
    }

    private void two(int a, int b) {
        done("date " + a + " " + b, x.date(a, b) >= -1);
        done("key " + a + " " + b, x.key(a, b) >= -1);
        done("drop " + a + " " + b, !x.drop(a, b) || a >= 0 && b >= 0);
        done("restore " + a + " " + b, x.restore(a, b) <= 2);
        done("busy " + a + " " + b, x.busy(a, b) <= 1440);
        done("split " + a + " " + b, x.split(a, b) < 12);
        done("periodOf " + a + " " + b, x.periodOf(a, b) >= -2);
        done("of " + a + " " + b, x.of(a, b) >= -2);
    }

    private void three(int a, int b, int c) {
        done("day " + a + " " + b + " " + c, x.day(a, b, c) >= -1);
        done("keys " + a + " " + b + " " + c, x.keys(a, b, c) >= -1);
        done("move " + a + " " + b + " " + c, !x.move(a, b, c) || c >= 0);
        done("next " + a + " " + b + " " + c, x.next(a, b, c) >= -1);
        done("ahead " + a + " " + b + " " + c, x.ahead(a, b, c) >= -1);
        done("count " + a + " " + b + " " + c, x.count(a, b, c) >= -1);
        done("on " + a + " " + b + " " + c, x.on(a, b, c) >= -1);
        done("clash " + a + " " + b + " " + c, x.clash(a, b, c) >= -1);
        done("clashes " + a + " " + b + " " + c, x.clashes(a, b, c, c) >= -1);
        done("clashes " + a + " " + b + " from 0 to " + c, x.clashes(a, b, 0, c) >= -1);
        done("roomClash " + a + " " + b + " " + c, x.roomClash(a, b, c) >= -1);
        done("free " + a + " " + b + " " + c, x.free(a, b, c) >= -1);
        done("busiest " + a + " " + b + " " + c, x.busiest(a, b, c) >= -1);
        onAt(a, b, c, 0, 0);
        onAt(-1, a, b, c, 2);
        onAt(1, 0, 86400, a, b);
    }

    private void onAt(int room, int from, int to, int i, int what) {
        boolean as;
        try {
            as = x.onAt(room, from, to, i, what) >= 0;
        } catch (NoSuchElementException e) {
            as = true;
        }
        done("onAt " + room + " " + from + " " + to + " " + i + " " + what, as);
    }

    private void all() {
        for (int a : WILD) {
            one(a);
            for (int b : WILD) {
                two(a, b);
                for (int c : WILD) {
                    three(a, b, c);
                }
            }
        }
    }

    private static void allOf(String kind, Supplier<BookIndex> make) {
        Check.says("no call throws by itself, on an object " + kind);
        try {
            new WildTest(make).all();
        } catch (RuntimeException e) {
            e.printStackTrace(System.out);
            Check.due("thrown", 1, 0);
        }
    }

    public static void main(String[] args) {
        allOf("without bookings", () -> {
            BookIndex x = Made.empty();
            x.image(0);
            x.image(1);
            return x;
        });
        allOf("with some", () -> {
            BookIndex x = Made.some();
            x.image(1);
            return x;
        });
        allOf("that is full", Made::full);
        Check.close();
    }
}
