/** Promises 16 and 17, each sentence at its bounds: on, onAt. */
public final class EdgesOnTest {
    private static final long THROWS = Long.MIN_VALUE;
    private static final int LAST_TIME = 52595999;
    private static final int SIXTY_DAYS = 60 * 1440;

    private static void spans() {
        Check.says("on: How many OCCURRENCES are on at some time from one TIME to ahead of another one");
        BookIndex x = Texts.good("book 2 at 100 for 50 once from 2000 1 11");
        int begin = 14400 + 100;
        int end = begin + 50;
        int[][] asked = {{begin - 1, begin, 0}, {begin - 1, begin + 1, 1}, {begin, begin + 1, 1}, {begin + 10, begin + 11, 1},
            {end - 1, end, 1}, {end - 1, end + 1, 1}, {end, end + 1, 0}, {begin - 9, end + 9, 1}, {begin, end, 1},
            {0, begin, 0}, {0, begin + 1, 1}, {end, end + SIXTY_DAYS, 0}, {end - 1, end - 1 + SIXTY_DAYS, 1}};
        for (int[] a : asked) {
            Check.due("on from " + a[0] + " to " + a[1], x.on(2, a[0], a[1]), a[2]);
        }
        x.move(0, 10, 0);
        Check.due("moved to time 0", x.on(2, 0, 1), 1);
        Check.due("its last minute", x.on(2, 49, 50), 1);
        Check.due("its end", x.on(2, 50, 51), 0);
        x.move(0, 10, LAST_TIME - 1);
        Check.due("moved to the last time but one", x.on(2, LAST_TIME - 1, LAST_TIME), 1);
        x.move(0, 10, LAST_TIME);
        Check.due("moved to the last time", x.on(2, LAST_TIME - 1, LAST_TIME), 0);
        x.drop(0, 10);
        Check.due("dropped", x.on(2, begin, end), 0);
    }

    private static void severalOfOne() {
        Check.says("on: OCCURRENCES, several of one BOOKING too");
        BookIndex x = Texts.good("book 2 at 0 for 4320 every 1 days from 2000 1 11");
        Check.due("three at once", x.on(2, 1440 * 20, 1440 * 20 + 1), 3);
        Check.due("two on the second day", x.on(2, 1440 * 11, 1440 * 11 + 1), 2);
        Check.due("in 60 days", x.on(2, 1440 * 20, 1440 * 80), 62);
        x.move(0, 15, 1440 * 20);
        Check.due("a fourth", x.on(2, 1440 * 20, 1440 * 20 + 1), 4);
    }

    private static void rooms() {
        Check.says("on: of a ROOM (NONE: of all)");
        BookIndex x = new BookIndex();
        for (int room = 0; room < 8; room++) {
            Check.book(x, "book " + room + " at 0 for 10 once from 2000 1 1");
        }
        Check.book(x, "book 7 at 5 for 10 once from 2000 1 1");
        for (int room = 0; room < 8; room++) {
            Check.due("room " + room, x.on(room, 0, 20), room == 7 ? 2 : 1);
        }
        Check.due("of all", x.on(-1, 0, 20), 9);
        Check.due("of all, from 10 on", x.on(-1, 10, 20), 1);
        Check.says("on: NONE: others");
        for (int room : new int[] {-2, 8, Integer.MIN_VALUE, Integer.MAX_VALUE}) {
            Check.due("room " + room, x.on(room, 0, 20), -1);
        }
    }

    private static void refused() {
        BookIndex x = Texts.good("book 2 at 0 for 4320 every 1 days from 2000 1 1");
        Check.says("on: NONE: others");
        for (int time : Outside.TIMES) {
            Check.due("from " + time, x.on(2, time, 10), -1);
            Check.due("to " + time, x.on(2, LAST_TIME, time), -1);
        }
        Check.due("from -1 to 0", x.on(2, -1, 0), -1);
        Check.due("up to the last time", x.on(2, LAST_TIME - 1, LAST_TIME), 3);
        Check.due("beyond it", x.on(2, LAST_TIME - 1, LAST_TIME + 1), -1);
        Check.says("on: NONE: the second one not behind the first");
        Check.due("at 0", x.on(2, 0, 0), -1);
        Check.due("one behind", x.on(2, 0, 1), 1);
        Check.due("one ahead", x.on(2, 1, 0), -1);
        Check.due("at the last time", x.on(2, LAST_TIME, LAST_TIME), -1);
        Check.due("from the last time back", x.on(2, LAST_TIME, 0), -1);
        Check.says("on: NONE: more than 60 DAYS");
        Check.due("60 days", x.on(2, 0, SIXTY_DAYS), 60);
        Check.due("a minute more", x.on(2, 0, SIXTY_DAYS + 1), -1);
        Check.due("60 days up to the last time", x.on(2, LAST_TIME - SIXTY_DAYS, LAST_TIME), 63);
        Check.due("a minute more up to it", x.on(2, LAST_TIME - SIXTY_DAYS - 1, LAST_TIME), -1);
        Check.due("all there is", x.on(2, 0, LAST_TIME), -1);
    }

    private static void at(BookIndex x, int i, int booking, int key, int time) {
        int to = 1440 * 20;
        Check.due(i + "-th booking", Check.onAt(x, -1, 0, to, i, 0), booking);
        Check.due(i + "-th key", Check.onAt(x, -1, 0, to, i, 1), key);
        Check.due(i + "-th time", Check.onAt(x, -1, 0, to, i, 2), time);
    }

    private static void order() {
        Check.says("onAt: Of the i-th of these (from 0; by TIMES, then BOOKINGS, then KEYS)");
        BookIndex x = new BookIndex();
        Check.book(x, "book 1 at 10 for 5 once from 2000 1 11");
        Check.book(x, "book 2 at 10 for 5 every 1 days from 2000 1 11 times 3");
        Check.book(x, "book 3 at 10 for 5 every 2 days from 2000 1 9 times 2");
        int time = 14400 + 10;
        x.move(1, 12, time);
        x.move(2, 8, time - 1);
        Check.due("how many", x.on(-1, 0, 1440 * 20), 6);
        at(x, 0, 2, 8, time - 1);
        at(x, 1, 0, 10, time);
        at(x, 2, 1, 10, time);
        at(x, 3, 1, 12, time);
        at(x, 4, 2, 10, time);
        at(x, 5, 1, 11, time + 1440);
        x.move(2, 8, time);
        x.move(1, 11, time);
        Check.due("all at one time, the first's booking", Check.onAt(x, -1, time, time + 1, 0, 0), 0);
        int[][] like = {{0, 10}, {1, 10}, {1, 11}, {1, 12}, {2, 8}, {2, 10}};
        for (int i = 0; i < 6; i++) {
            Check.due("booking " + i + " of one time", Check.onAt(x, -1, time, time + 1, i, 0), like[i][0]);
            Check.due("key " + i + " of one time", Check.onAt(x, -1, time, time + 1, i, 1), like[i][1]);
        }
    }

    private static void begunEarlier() {
        Check.says("onAt: of these: what began ahead of the first TIME and is on still is the first");
        BookIndex x = Texts.good("book 1 at 0 for 4320 every 1 days from 2000 1 1");
        int from = 1440 * 10;
        Check.due("the first's key", Check.onAt(x, 1, from, from + 1, 0, 1), 8);
        Check.due("the second's", Check.onAt(x, 1, from, from + 1, 1, 1), 9);
        Check.due("the third's", Check.onAt(x, 1, from, from + 1, 2, 1), 10);
        Check.due("a fourth", Check.onAt(x, 1, from, from + 1, 3, 1), THROWS);
        Check.due("a minute ahead, the first's", Check.onAt(x, 1, from - 1, from, 0, 1), 7);
        Check.due("a minute ahead, the third's", Check.onAt(x, 1, from - 1, from, 2, 1), 9);
        Check.due("a minute ahead, a fourth", Check.onAt(x, 1, from - 1, from, 3, 1), THROWS);
        Check.due("the last of 60 days", Check.onAt(x, 1, from, from + SIXTY_DAYS, 61, 1), 69);
        Check.due("behind the last of 60 days", Check.onAt(x, 1, from, from + SIXTY_DAYS, 62, 1), THROWS);
    }

    private static void keyZero() {
        Check.says("onAt: KEY 0 at TIME 0 is one of these");
        BookIndex x = Texts.good("book 1 at 0 for 1 every 1 days from 2000 1 1");
        Check.due("on", x.on(1, 0, 1), 1);
        Check.due("its booking", Check.onAt(x, 1, 0, 1, 0, 0), 0);
        Check.due("its key", Check.onAt(x, 1, 0, 1, 0, 1), 0);
        Check.due("its time", Check.onAt(x, 1, 0, 1, 0, 2), 0);
        Check.due("the next one", Check.onAt(x, 1, 0, 1441, 1, 1), 1);
        x.move(0, 1, 0);
        x.move(0, 2, 0);
        Check.due("three at time 0", x.on(1, 0, 1), 3);
        for (int i = 0; i < 3; i++) {
            Check.due("key " + i + " of them", Check.onAt(x, 1, 0, 1, i, 1), i);
        }
    }

    private static void noSuch() {
        BookIndex x = Texts.good("book 1 at 0 for 10 every 1 days from 2000 1 1");
        Check.says("onAt: NoSuchElementException: none such");
        Check.due("i 0", Check.onAt(x, 1, 0, 1440, 0, 0), 0);
        for (int i : new int[] {-1, 1, Integer.MIN_VALUE, Integer.MAX_VALUE}) {
            Check.due("i " + i, Check.onAt(x, 1, 0, 1440, i, 0), THROWS);
        }
        Check.due("none is on", Check.onAt(x, 1, 10, 1440, 0, 0), THROWS);
        Check.due("none of another room", Check.onAt(x, 2, 0, 1440, 0, 0), THROWS);
        Check.says("onAt: NoSuchElementException: others");
        for (int what : Outside.whats(2)) {
            Check.due("what " + what, Check.onAt(x, 1, 0, 1440, 0, what), THROWS);
        }
        for (int room : new int[] {-2, 8, Integer.MIN_VALUE, Integer.MAX_VALUE}) {
            Check.due("room " + room, Check.onAt(x, room, 0, 1440, 0, 0), THROWS);
        }
        Check.due("all rooms", Check.onAt(x, -1, 0, 1440, 0, 0), 0);
        for (int time : Outside.TIMES) {
            Check.due("from " + time, Check.onAt(x, 1, time, 1440, 0, 0), THROWS);
            Check.due("to " + time, Check.onAt(x, 1, LAST_TIME, time, 0, 0), THROWS);
        }
        Check.due("the second one at the first", Check.onAt(x, 1, 5, 5, 0, 0), THROWS);
        Check.due("the second one ahead of the first", Check.onAt(x, 1, 6, 5, 0, 0), THROWS);
        Check.due("60 days", Check.onAt(x, 1, 0, SIXTY_DAYS, 59, 1), 59);
        Check.due("more than 60 days", Check.onAt(x, 1, 0, SIXTY_DAYS + 1, 0, 0), THROWS);
    }

    private static void onFullAndEmpty() {
        Check.says("on, onAt on a full object, on an empty one");
        BookIndex empty = Made.empty();
        Check.due("on of none", empty.on(-1, 0, SIXTY_DAYS), 0);
        Check.due("on of none, of a room", empty.on(0, 0, 1), 0);
        Check.due("onAt of none", Check.onAt(empty, -1, 0, SIXTY_DAYS, 0, 0), THROWS);
        BookIndex full = new BookIndex();
        for (int i = 0; i < 12; i++) {
            Check.book(full, "book 7 at 0 for 4320 every 1 days from 2000 1 1");
            for (int k = 0; k < 16; k++) {
                full.move(i, 100 + k, 1440 * 50);
            }
        }
        Check.due("the most there can be", full.on(7, 1440 * 10, 1440 * 70), 12 * (62 + 16));
        Check.due("the first of them", Check.onAt(full, 7, 1440 * 10, 1440 * 70, 0, 1), 8);
        Check.due("the last of them", Check.onAt(full, 7, 1440 * 10, 1440 * 70, 12 * 78 - 1, 1), 69);
        Check.due("the last one's booking", Check.onAt(full, 7, 1440 * 10, 1440 * 70, 12 * 78 - 1, 0), 11);
        Check.due("behind the last of them", Check.onAt(full, 7, 1440 * 10, 1440 * 70, 12 * 78, 0), THROWS);
    }

    public static void main(String[] args) {
        spans();
        severalOfOne();
        rooms();
        refused();
        order();
        begunEarlier();
        keyZero();
        noSuch();
        onFullAndEmpty();
        Check.close();
    }
}
