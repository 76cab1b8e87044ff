/** Promises 16 and 17: what is on from a time to ahead of another one, and in which order. */
public final class OnTest {
    private static final long THROWS = Long.MIN_VALUE;

    private static void spans() {
        BookIndex x = new BookIndex();
        Check.book(x, "book 2 at 100 for 50 once from 2000 1 11");
        int begin = Check.time(10, 100);
        Check.due("up to its begin", x.on(2, begin - 10, begin), 0);
        Check.due("its first minute", x.on(2, begin, begin + 1), 1);
        Check.due("its last minute", x.on(2, begin + 49, begin + 50), 1);
        Check.due("behind its end", x.on(2, begin + 50, begin + 60), 0);
        Check.due("round it", x.on(2, begin - 10, begin + 60), 1);
        Check.due("of another room", x.on(3, begin, begin + 1), 0);
        Check.due("of all", x.on(-1, begin, begin + 1), 1);
        Check.due("60 days", x.on(2, 0, 86400), 1);
        Check.due("a minute more", x.on(2, 0, 86401), -1);
        Check.due("60 days at the end", x.on(2, 52595999 - 86400, 52595999), 0);
        Check.due("none", x.on(2, begin, begin), -1);
        Check.due("backwards", x.on(2, begin + 1, begin), -1);
        Check.due("from -1", x.on(2, -1, 10), -1);
        Check.due("to no time", x.on(2, 52595999, 52596000), -1);
        Check.due("far apart", x.on(2, Integer.MIN_VALUE, Integer.MAX_VALUE), -1);
        Check.due("room 8", x.on(8, 0, 1), -1);
        Check.due("room -2", x.on(-2, 0, 1), -1);
        Check.due("room 7", x.on(7, 0, 1), 0);
        Check.due("room 0", x.on(0, 0, 1), 0);
    }

    private static BookIndex three() {
        BookIndex x = new BookIndex();
        Check.book(x, "book 1 at 30 for 4320 every 2 days from 2000 1 1");
        Check.book(x, "book 2 at 30 for 10 every 1 days from 2000 1 1");
        Check.book(x, "book 1 at 10 for 10 every 1 days from 2000 1 5");
        x.move(1, 9, Check.time(4, 30));
        return x;
    }

    private static void at(BookIndex x, int room, int i, int booking, int key, int time) {
        int from = Check.time(4, 0);
        int to = Check.time(5, 0);
        Check.due("room " + room + ", " + i + "-th booking", Check.onAt(x, room, from, to, i, 0), booking);
        Check.due("room " + room + ", " + i + "-th key", Check.onAt(x, room, from, to, i, 1), key);
        Check.due("room " + room + ", " + i + "-th time", Check.onAt(x, room, from, to, i, 2), time);
    }

    private static void inOrder() {
        BookIndex x = three();
        int time = Check.time(4, 30);
        Check.due("all", x.on(-1, Check.time(4, 0), Check.time(5, 0)), 5);
        at(x, -1, 0, 0, 2, Check.time(2, 30));
        at(x, -1, 1, 2, 4, Check.time(4, 10));
        at(x, -1, 2, 0, 4, time);
        at(x, -1, 3, 1, 4, time);
        at(x, -1, 4, 1, 9, time);
        at(x, 1, 0, 0, 2, Check.time(2, 30));
        at(x, 1, 1, 2, 4, Check.time(4, 10));
        at(x, 1, 2, 0, 4, time);
        at(x, 2, 1, 1, 9, time);
    }

    /** Moved to one time: keys next to each other, and one that is there by its rule. */
    private static void likeTimes() {
        BookIndex x = new BookIndex();
        Check.book(x, "book 1 at 30 for 10 every 1 days from 2000 1 1 times 9");
        int time = Check.time(5, 30);
        x.move(0, 3, time);
        x.move(0, 4, time);
        x.move(0, 0, time);
        x.move(0, 1, time);
        int[] keys = {0, 1, 3, 4, 5};
        Check.due("five at once", x.on(1, time, time + 1), 5);
        for (int i = 0; i < keys.length; i++) {
            Check.due(i + "-th of like times", Check.onAt(x, 1, time, time + 1, i, 1), keys[i]);
            Check.due(i + "-th of like times, from ahead", Check.onAt(x, 1, time - 9, time + 1, i, 1), keys[i]);
            Check.due(i + "-th of like times, at their end", Check.onAt(x, 1, time + 9, time + 10, i, 1), keys[i]);
        }
        Check.book(x, "book 1 at 30 for 10 once from 2000 1 6");
        Check.due("each clashes", x.clashes(0, 1, 5, 5), 5);
        Check.due("each clashes, asked the other way", x.clashes(1, 0, 5, 5), 5);
    }

    private static void noSuch() {
        BookIndex x = three();
        int from = Check.time(4, 0);
        int to = Check.time(5, 0);
        Check.due("i 5", Check.onAt(x, -1, from, to, 5, 0), THROWS);
        Check.due("i 3 of room 1", Check.onAt(x, 1, from, to, 3, 0), THROWS);
        Check.due("i -1", Check.onAt(x, -1, from, to, -1, 0), THROWS);
        Check.due("what -1", Check.onAt(x, -1, from, to, 0, -1), THROWS);
        Check.due("what 3", Check.onAt(x, -1, from, to, 0, 3), THROWS);
        Check.due("room 8", Check.onAt(x, 8, from, to, 0, 0), THROWS);
        Check.due("backwards", Check.onAt(x, -1, to, from, 0, 0), THROWS);
        Check.due("none", Check.onAt(x, -1, from, from, 0, 0), THROWS);
        Check.due("too long", Check.onAt(x, -1, 0, 86401, 0, 0), THROWS);
        Check.due("no time", Check.onAt(x, -1, -1, 1, 0, 0), THROWS);
    }

    public static void main(String[] args) {
        spans();
        inOrder();
        likeTimes();
        noSuch();
        Check.close();
    }
}
