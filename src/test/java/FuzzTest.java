import java.util.ArrayList;
import java.util.List;
import java.util.NoSuchElementException;
import java.util.Random;

/** Runs of calls drawn from a fixed seed, each answer beside that of the model. */
public final class FuzzTest {
    private static final int[] EDGES = {0, 1, -1, -2, 36524, 36525, 52595999, 52596000, Integer.MAX_VALUE,
        Integer.MIN_VALUE, 12, 2, 7, 8};

    private final Random random;
    private final BookIndex x = new BookIndex();
    private final Model m = new Model();
    private final List<String> calls = new ArrayList<>();
    /** All days are drawn near this one, so that bookings meet. */
    private final int centre;
    private final int spread;
    private final int rooms;
    private boolean good = true;

    private FuzzTest(long seed) {
        random = new Random(seed);
        int[] centres = {0, 59, 8825, 20000, 36500, 36524};
        centre = centres[random.nextInt(centres.length)];
        spread = new int[] {5, 40, 400, 36524}[random.nextInt(4)];
        rooms = 1 + random.nextInt(3);
    }

    private int day() {
        if (random.nextInt(40) == 0) {
            return EDGES[random.nextInt(EDGES.length)];
        }
        return Math.max(0, Math.min(36524, centre + random.nextInt(2 * spread + 1) - spread));
    }

    private int time() {
        if (random.nextInt(40) == 0) {
            return EDGES[random.nextInt(EDGES.length)];
        }
        if (random.nextBoolean()) {
            int near = m.next(booking(), 1440 * Math.max(0, Math.min(36524, day())), 0);
            if (near != -1) {
                return near + random.nextInt(5) - 2;
            }
        }
        return 1440 * Math.max(0, Math.min(36524, day())) + random.nextInt(1440);
    }

    private int booking() {
        return random.nextInt(30) == 0 ? EDGES[random.nextInt(EDGES.length)]
                : random.nextInt(Math.max(1, m.told(0) + (random.nextInt(10) == 0 ? 1 : 0)));
    }

    private int room() {
        return random.nextInt(20) == 0 ? random.nextInt(12) - 2 : random.nextInt(rooms);
    }

    private int anyKey(int booking) {
        int key = m.key(booking, Math.max(0, Math.min(36524, day())));
        return key == -1 || random.nextInt(15) == 0 ? day() : key;
    }

    private String dateText(int day) {
        int d = Math.max(0, Math.min(36524, day));
        return m.date(d, 0) + " " + m.date(d, 1) + " " + m.date(d, 2);
    }

    private String weekday() {
        return Model.WEEKDAYS.get(random.nextInt(7));
    }

    private int every() {
        int r = random.nextInt(10);
        return r < 5 ? 1 + random.nextInt(3) : r < 9 ? 1 + random.nextInt(30) : 1 + random.nextInt(1000);
    }

    private String rule() {
        String head = "every " + every() + " ";
        switch (random.nextInt(9)) {
            case 0:
                return "once";
            case 1:
            case 2:
                return head + "days";
            case 3:
            case 4:
                StringBuilder s = new StringBuilder(head).append("weeks");
                int n = 1 + random.nextInt(4);
                for (int i = 0; i < n; i++) {
                    String w = weekday();
                    if (s.indexOf(w) < 0 || random.nextInt(20) == 0) {
                        s.append(' ').append(w);
                    }
                }
                return s.toString();
            case 5:
                return head + "months on " + (random.nextBoolean() ? 1 + random.nextInt(32) : 28 + random.nextInt(4));
            case 6:
                return head + "months end " + (1 + random.nextInt(28));
            case 7:
                return head + (random.nextBoolean() ? "months nth " + (1 + random.nextInt(5)) + " " : "months last ")
                        + weekday();
            default:
                return head + "years";
        }
    }

    private String text() {
        int start = day();
        int[] lengths = {1, 30, 60, 500, 1440, 2000, 4320};
        int length = random.nextInt(3) == 0 ? 1 + random.nextInt(4320) : lengths[random.nextInt(lengths.length)];
        String s = "book " + random.nextInt(rooms) + " at " + random.nextInt(1440) + " for " + length + " " + rule()
                + " from " + dateText(start);
        int more = random.nextInt(4);
        if (more == 0) {
            s += " until " + dateText(start + random.nextInt(2 * spread) - random.nextInt(3));
        } else if (more == 1) {
            s += " times " + (random.nextInt(4) == 0 ? 1 + random.nextInt(1000) : 1 + random.nextInt(20));
        }
        return random.nextInt(4) == 0 ? spoil(s) : s;
    }

    private String spoil(String text) {
        StringBuilder s = new StringBuilder(text);
        int at = random.nextInt(s.length());
        String[] put = {" ", "", "0", "9", "a", "mon", "#", "\0", "\u00ff", " 12345 ", " until ", " from ", "  ", "Z"};
        switch (random.nextInt(4)) {
            case 0:
                return s.insert(at, put[random.nextInt(put.length)]).toString();
            case 1:
                return s.deleteCharAt(at).toString();
            case 2:
                return s.substring(0, at);
            default:
                String bare = text.replaceAll("(?<=[a-z]) (?=[0-9])|(?<=[0-9]) (?=[a-z])", "");
                return random.nextBoolean() ? bare : " " + bare + " ";
        }
    }

    private void due(String call, long got, long want) {
        calls.add(call + " = " + got);
        Check.due(call, got, want);
        if (got != want) {
            good = false;
        }
    }

    private void feedText(String text) {
        byte[] bytes = text.getBytes(java.nio.charset.StandardCharsets.ISO_8859_1);
        calls.add("text '" + text + "'");
        for (int i = 0; i < bytes.length; i += 24) {
            long a = Check.eight(bytes, i);
            long b = Check.eight(bytes, i + 8);
            long c = Check.eight(bytes, i + 16);
            due("feed", x.feed(a, b, c), m.feed(a, b, c));
        }
        due("end", x.end(bytes.length), m.end(bytes.length));
        if (random.nextInt(30) == 0) {
            long v = random.nextLong();
            due("feed", x.feed(v, v, v), m.feed(v, v, v));
        }
        due("told(1)", x.told(1), m.told(1));
        due("book", x.book(), m.book());
    }

    private static long onAt(Model m, int room, int from, int to, int i, int what) {
        try {
            return m.onAt(room, from, to, i, what);
        } catch (NoSuchElementException e) {
            return Long.MIN_VALUE;
        }
    }

    private void changeCall() {
        int b = booking();
        int k = anyKey(b);
        int t = time();
        switch (random.nextInt(12)) {
            case 0:
                if (random.nextInt(3) == 0) {
                    due("cancel " + b, x.cancel(b) ? 1 : 0, m.cancel(b) ? 1 : 0);
                }
                break;
            case 1:
                due("split " + b + " " + k, x.split(b, k), m.split(b, k));
                break;
            case 2:
                int i = random.nextInt(10) == 0 ? random.nextInt(5) - 2 : random.nextInt(2);
                due("image " + i, x.image(i) ? 1 : 0, m.image(i) ? 1 : 0);
                break;
            case 3:
                int j = random.nextInt(10) == 0 ? random.nextInt(5) - 2 : random.nextInt(2);
                if (random.nextInt(3) == 0) {
                    due("back " + j, x.back(j) ? 1 : 0, m.back(j) ? 1 : 0);
                }
                break;
            case 4:
                due("restore " + b + " " + k, x.restore(b, k), m.restore(b, k));
                break;
            case 5:
            case 6:
            case 7:
                due("drop " + b + " " + k, x.drop(b, k) ? 1 : 0, m.drop(b, k) ? 1 : 0);
                break;
            default:
                due("move " + b + " " + k + " " + t, x.move(b, k, t) ? 1 : 0, m.move(b, k, t) ? 1 : 0);
        }
    }

    private void bookingCall() {
        int b = booking();
        int d = day();
        int e = random.nextBoolean() ? day() : d + random.nextInt(400);
        int t = time();
        int what = random.nextInt(12) == 0 ? random.nextInt(20) - 3 : random.nextInt(2);
        switch (random.nextInt(9)) {
            case 0:
                due("key " + b + " " + d, x.key(b, d), m.key(b, d));
                break;
            case 1:
                due("keys " + b + " " + d + " " + e, x.keys(b, d, e), m.keys(b, d, e));
                break;
            case 2:
                due("next " + b + " " + t + " " + what, x.next(b, t, what), m.next(b, t, what));
                break;
            case 3:
                due("ahead " + b + " " + t + " " + what, x.ahead(b, t, what), m.ahead(b, t, what));
                break;
            case 4:
                due("count " + b + " " + d + " " + e, x.count(b, d, e), m.count(b, d, e));
                break;
            case 5:
                int w = random.nextInt(16) - 1;
                due("of " + b + " " + w, x.of(b, w), m.of(b, w));
                break;
            case 6:
                due("period " + b, x.period(b), m.period(b));
                break;
            case 7:
                int c = booking();
                due("periodOf " + b + " " + c, x.periodOf(b, c), m.periodOf(b, c));
                break;
            default:
                int q = random.nextInt(6) - 1;
                due("told " + q, x.told(q), m.told(q));
        }
    }

    private void clashCall() {
        int b = booking();
        int c = booking();
        int d = day();
        int e = d + random.nextInt(405);
        int t = time();
        int r = room();
        int what = random.nextInt(12) == 0 ? random.nextInt(6) - 2 : random.nextInt(3);
        switch (random.nextInt(3)) {
            case 0:
                due("clash " + b + " " + c + " " + t, x.clash(b, c, t), m.clash(b, c, t));
                break;
            case 1:
                due("clashes " + b + " " + c + " " + d + " " + e, x.clashes(b, c, d, e), m.clashes(b, c, d, e));
                break;
            default:
                due("roomClash " + r + " " + t + " " + what, x.roomClash(r, t, what), m.roomClash(r, t, what));
        }
    }

    private void roomCall() {
        int r = random.nextInt(4) == 0 ? -1 : room();
        int t = time();
        int u = t + (random.nextInt(4) == 0 ? random.nextInt(86500) - 20 : random.nextInt(3000));
        int d = day();
        int e = d + random.nextInt(63) - 1;
        int what = random.nextInt(12) == 0 ? random.nextInt(6) - 2 : random.nextInt(3);
        switch (random.nextInt(6)) {
            case 0:
                due("on " + r + " " + t + " " + u, x.on(r, t, u), m.on(r, t, u));
                break;
            case 1:
            case 2:
                int i = random.nextInt(Math.max(1, m.on(r, t, u) + 1)) - (random.nextInt(20) == 0 ? 1 : 0);
                due("onAt " + r + " " + t + " " + u + " " + i + " " + what, Check.onAt(x, r, t, u, i, what),
                        onAt(m, r, t, u, i, what));
                break;
            case 3:
                int n = random.nextInt(10) == 0 ? random.nextInt(4330) - 4 : 1 + random.nextInt(1500);
                due("free " + r + " " + t + " " + n, x.free(r, t, n), m.free(r, t, n));
                break;
            case 4:
                due("busy " + r + " " + d, x.busy(r, d), m.busy(r, d));
                break;
            default:
                due("busiest " + r + " " + d + " " + e, x.busiest(r, d, e), m.busiest(r, d, e));
        }
    }

    private boolean run() {
        // An object is used for at most 512 calls; a text takes a dozen.
        for (int i = 0; i < 120 && good && calls.size() < 480; i++) {
            int kind = random.nextInt(10);
            if (m.told(0) == 0 || m.told(0) < 4 && kind == 0 || random.nextInt(25) == 0) {
                feedText(text());
            } else if (kind < 4) {
                changeCall();
            } else if (kind < 6) {
                bookingCall();
            } else if (kind < 8) {
                clashCall();
            } else {
                roomCall();
            }
        }
        return good;
    }

    public static void main(String[] args) {
        int runs = args.length > 0 ? Integer.parseInt(args[0]) : 600;
        long first = args.length > 1 ? Long.parseLong(args[1]) : 1;
        for (long seed = first; seed < first + runs; seed++) {
            FuzzTest test = new FuzzTest(seed);
            boolean fine;
            try {
                fine = test.run();
            } catch (RuntimeException e) {
                e.printStackTrace(System.out);
                Check.due("run " + seed + " threw", 1, 0);
                fine = false;
            }
            if (!fine) {
                System.out.println("run " + seed + ":");
                test.calls.forEach(call -> System.out.println("  " + call));
                break;
            }
        }
        Check.close();
    }
}
