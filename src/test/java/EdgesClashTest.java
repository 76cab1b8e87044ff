/** Promises 18 to 20, each sentence at its bounds: clash, clashes, roomClash. */
public final class EdgesClashTest {
    private static final int LAST_TIME = 52595999;

    private static BookIndex two(String one, String other) {
        BookIndex x = new BookIndex();
        Check.due(one, Check.book(x, one), 0);
        Check.due(other, Check.book(x, other), 1);
        return x;
    }

    private static void clashAtOrBehind() {
        Check.says("clash: The first CLASH of two BOOKINGS at a TIME or behind it");
        BookIndex x = two("book 1 at 100 for 50 every 5 days from 2000 1 11 times 3",
                "book 2 at 120 for 50 every 1 days from 2000 1 1");
        int first = 1440 * 10 + 120;
        int last = 1440 * 20 + 120;
        int[][] asked = {{0, first}, {first - 1, first}, {first, first}, {first + 1, first + 7200}, {last - 1, last},
            {last, last}, {last + 1, -1}, {LAST_TIME, -1}};
        for (int[] a : asked) {
            Check.due("from " + a[0], x.clash(0, 1, a[0]), a[1]);
            Check.due("from " + a[0] + ", the other way", x.clash(1, 0, a[0]), a[1]);
        }
        Check.due("asked between the two begins", x.clash(0, 1, first - 10), first);
        x.drop(0, 10);
        Check.due("the first one dropped", x.clash(0, 1, 0), first + 7200);
        x.drop(1, 15);
        Check.due("the other one's dropped", x.clash(0, 1, 0), last);
        x.move(0, 20, 1440 * 20 + 170);
        Check.due("the last one moved out of it", x.clash(0, 1, 0), -1);
        x.move(0, 20, 1440 * 20 + 169);
        Check.due("a minute into it", x.clash(0, 1, 0), 1440 * 20 + 169);
        x.move(0, 10, LAST_TIME);
        Check.due("one moved to the last time", x.clash(0, 1, 1440 * 21), -1);
        x.move(1, 36524, LAST_TIME);
        Check.due("and the other", x.clash(0, 1, 1440 * 21), LAST_TIME);
        Check.due("asked at the last time", x.clash(0, 1, LAST_TIME), LAST_TIME);
    }

    private static void farApart() {
        Check.says("clash: The first CLASH of two BOOKINGS, of which one starts long behind the other");
        BookIndex x = two("book 1 at 5 for 1 every 1 days from 2000 1 1", "book 2 at 5 for 1 every 1 days from 2050 1 1");
        int first = 1440 * x.day(2050, 1, 1) + 5;
        Check.due("at its start", x.clash(0, 1, 0), first);
        Check.due("at its start, the other way", x.clash(1, 0, first), first);
        Check.due("the next day", x.clash(0, 1, first + 1), first + 1440);
        Check.says("clash: NONE: none near");
        BookIndex y = two("book 1 at 0 for 4320 once from 2000 1 21", "book 2 at 0 for 1 every 40 days from 2000 1 2");
        Check.due("one between two far ones", y.clash(0, 1, 0), -1);
        Check.due("the other way", y.clash(1, 0, 0), -1);
        BookIndex z = two("book 1 at 0 for 1 every 1 days from 2000 1 1 times 2", "book 2 at 0 for 1 every 1 days from 2000 1 1");
        z.drop(0, 0);
        Check.due("the second of two", z.clash(0, 1, 0), 1440);
        Check.due("behind the second of two", z.clash(0, 1, 1441), -1);
    }

    /** All changes of both stand where their first clashes would be. */
    private static void changesInTheWay() {
        Check.says("clash: The first CLASH, where 16 of each BOOKING are DROPPED");
        BookIndex x = two("book 1 at 0 for 1 every 3 days from 2000 1 1", "book 2 at 0 for 1 every 2 days from 2000 1 1");
        for (int i = 0; i < 16; i++) {
            Check.due("drop of the one " + i, x.drop(0, 12 * i), true);
            Check.due("drop of the other " + i, x.drop(1, 12 * i + 6), true);
        }
        Check.due("the 33rd", x.clash(0, 1, 0), 1440 * 6 * 32);
        Check.due("counted up to it", x.clashes(0, 1, 0, 6 * 32), 1);
        x.restore(1, 6 * 31);
        Check.due("the 32nd, restored", x.clash(0, 1, 0), 1440 * 6 * 31);
    }

    private static void clashRefused() {
        Check.says("clash: NONE: others, none");
        BookIndex x = two("book 1 at 0 for 9 every 1 days from 2000 1 1", "book 1 at 0 for 9 every 1 days from 2000 1 1");
        Check.due("two", x.clash(0, 1, 0), 0);
        Check.due("one and itself", x.clash(0, 0, 0), -1);
        Check.due("the other and itself", x.clash(1, 1, 0), -1);
        for (int b : Outside.bookings(2)) {
            Check.due("0 and " + b, x.clash(0, b, 0), -1);
            Check.due(b + " and 0", x.clash(b, 0, 0), -1);
            Check.due(b + " twice", x.clash(b, b, 0), -1);
        }
        for (int time : Outside.TIMES) {
            Check.due("from " + time, x.clash(0, 1, time), -1);
        }
        Check.due("the last one", x.clash(0, 1, 1440 * 36524), 1440 * 36524);
        Check.due("behind the last one", x.clash(0, 1, 1440 * 36524 + 1), -1);
    }

    private static void clashesCounted() {
        Check.says("clashes: How many twos of their OCCURRENCES CLASH at a TIME of these DAYS, both counted");
        BookIndex x = two("book 1 at 0 for 1 every 1 days from 2000 1 11 times 3",
                "book 2 at 0 for 1 every 1 days from 2000 1 11 times 3");
        int[][] asked = {{10, 12, 3}, {10, 11, 2}, {11, 12, 2}, {10, 10, 1}, {12, 12, 1}, {0, 9, 0}, {13, 400, 0}, {0, 399, 3}};
        for (int[] a : asked) {
            Check.due("from " + a[0] + " to " + a[1], x.clashes(0, 1, a[0], a[1]), a[2]);
            Check.due("from " + a[0] + " to " + a[1] + ", the other way", x.clashes(1, 0, a[0], a[1]), a[2]);
        }
        x.move(0, 10, 1440 * 20 + 1439);
        x.move(1, 10, 1440 * 20 + 1439);
        Check.due("in a day's last minute", x.clashes(0, 1, 20, 20), 1);
        Check.due("not on the next", x.clashes(0, 1, 21, 21), 0);
        x.move(0, 10, 1440 * 20);
        x.move(1, 10, 1440 * 20);
        Check.due("in a day's first minute", x.clashes(0, 1, 20, 20), 1);
        Check.due("not the day ahead", x.clashes(0, 1, 19, 19), 0);
        Check.says("clashes: How many twos");
        for (int key = 10; key <= 12; key++) {
            x.move(0, key, 1440 * 20);
            x.move(1, key, 1440 * 20);
        }
        Check.due("three of each at one time", x.clashes(0, 1, 20, 20), 9);
        BookIndex y = two("book 1 at 0 for 4320 every 1 days from 2000 1 11 times 3",
                "book 2 at 1439 for 4320 every 1 days from 2000 1 11 times 3");
        // all six are on from day 12's last minute to day 13
        Check.due("each with each", y.clashes(0, 1, 0, 399), 9);
        Check.due("on the first day", y.clashes(0, 1, 10, 10), 1);
        Check.due("on the second", y.clashes(0, 1, 11, 11), 3);
        Check.due("on the third", y.clashes(0, 1, 12, 12), 5);
    }

    private static void clashesRefused() {
        BookIndex x = two("book 1 at 0 for 9 every 1 days from 2000 1 1", "book 1 at 0 for 9 every 1 days from 2000 1 1");
        Check.says("clashes: NONE: others");
        for (int b : Outside.bookings(2)) {
            Check.due("0 and " + b, x.clashes(0, b, 0, 1), -1);
            Check.due(b + " and 0", x.clashes(b, 0, 0, 1), -1);
        }
        Check.due("one and itself", x.clashes(0, 0, 0, 1), -1);
        for (int day : Outside.DAYS) {
            Check.due("from " + day, x.clashes(0, 1, day, 1), -1);
            Check.due("to " + day, x.clashes(0, 1, 36524, day), -1);
        }
        Check.due("from -1 to -1", x.clashes(0, 1, -1, -1), -1);
        Check.says("clashes: NONE: the second DAY ahead of the first");
        Check.due("the same day", x.clashes(0, 1, 1, 1), 1);
        Check.due("a day ahead", x.clashes(0, 1, 1, 0), -1);
        Check.says("clashes: NONE: more than 400 DAYS");
        Check.due("400 days", x.clashes(0, 1, 0, 399), 400);
        Check.due("401 days", x.clashes(0, 1, 0, 400), -1);
        Check.due("400 days up to the last", x.clashes(0, 1, 36125, 36524), 400);
        Check.due("401 days up to the last", x.clashes(0, 1, 36124, 36524), -1);
        Check.due("all days", x.clashes(0, 1, 0, 36524), -1);
        Check.due("the last day", x.clashes(0, 1, 36524, 36524), 1);
    }

    private static void room() {
        Check.says("roomClash: The first CLASH of any two BOOKINGS of a ROOM at a TIME or behind it, what 0: that");
        BookIndex x = new BookIndex();
        Check.book(x, "book 7 at 50 for 10 once from 2000 1 2");
        Check.book(x, "book 0 at 50 for 10 every 1 days from 2000 1 1");
        Check.book(x, "book 7 at 50 for 10 once from 2000 1 4");
        Check.book(x, "book 7 at 55 for 10 every 1 days from 2000 1 1");
        int first = 1440 + 55;
        int second = 1440 * 3 + 55;
        int[][] asked = {{0, first}, {first, first}, {first + 1, second}, {second, second}, {second + 1, -1}, {LAST_TIME, -1}};
        for (int[] a : asked) {
            Check.due("from " + a[0], x.roomClash(7, a[0], 0), a[1]);
        }
        Check.says("roomClash: what 1, 2: the BOOKINGS (of several the less first)");
        Check.due("the one", x.roomClash(7, 0, 1), 0);
        Check.due("the other", x.roomClash(7, 0, 2), 3);
        Check.due("the second's one", x.roomClash(7, first + 1, 1), 2);
        Check.due("the second's other", x.roomClash(7, first + 1, 2), 3);
        Check.due("none's one", x.roomClash(7, second + 1, 1), -1);
        Check.due("none's other", x.roomClash(7, second + 1, 2), -1);
        Check.due("one booking of a room alone", x.roomClash(0, 0, 0), -1);
        Check.due("no booking of a room", x.roomClash(3, 0, 0), -1);
        Check.due("no booking of a room, the one", x.roomClash(3, 0, 1), -1);
        Check.due("no booking of a room, the other", x.roomClash(3, 0, 2), -1);
    }

    private static void roomOfSeveral() {
        Check.says("roomClash: (of several the less first)");
        BookIndex x = new BookIndex();
        Check.book(x, "book 5 at 0 for 1 once from 2000 1 20");
        Check.book(x, "book 5 at 0 for 9 once from 2000 1 11");
        Check.book(x, "book 5 at 5 for 9 once from 2000 1 11");
        Check.book(x, "book 5 at 5 for 9 once from 2000 1 11");
        Check.book(x, "book 5 at 2 for 9 once from 2000 1 12");
        // at minute 5 of day 10: 1 and 2, 1 and 3, 2 and 3
        Check.due("the time", x.roomClash(5, 0, 0), 14405);
        Check.due("the less one", x.roomClash(5, 0, 1), 1);
        Check.due("the less other", x.roomClash(5, 0, 2), 2);
        x.drop(1, 10);
        Check.due("the time then", x.roomClash(5, 0, 0), 14405);
        Check.due("the one then", x.roomClash(5, 0, 1), 2);
        Check.due("the other then", x.roomClash(5, 0, 2), 3);
        x.restore(1, 10);
        x.drop(2, 10);
        Check.due("the one without 2", x.roomClash(5, 0, 1), 1);
        Check.due("the other without 2", x.roomClash(5, 0, 2), 3);
        x.move(4, 11, 14404);
        Check.due("an earlier one of greater numbers", x.roomClash(5, 0, 0), 14404);
        Check.due("its one", x.roomClash(5, 0, 1), 1);
        Check.due("its other", x.roomClash(5, 0, 2), 4);
    }

    private static void roomRefused() {
        Check.says("roomClash: NONE: others, none");
        BookIndex x = two("book 0 at 0 for 9 every 1 days from 2000 1 1", "book 0 at 0 for 9 every 1 days from 2000 1 1");
        Check.due("room 0", x.roomClash(0, 0, 0), 0);
        for (int room : Outside.ROOMS) {
            Check.due("room " + room, x.roomClash(room, 0, 0), -1);
        }
        for (int time : Outside.TIMES) {
            Check.due("from " + time, x.roomClash(0, time, 0), -1);
        }
        for (int what : Outside.whats(2)) {
            Check.due("what " + what, x.roomClash(0, 0, what), -1);
        }
        Check.due("at the last one", x.roomClash(0, 1440 * 36524, 0), 1440 * 36524);
        Check.due("behind the last one", x.roomClash(0, 1440 * 36524 + 1, 0), -1);
        BookIndex y = two("book 7 at 0 for 9 once from 2000 1 1", "book 7 at 8 for 9 once from 2000 1 1");
        Check.due("room 7", y.roomClash(7, 0, 0), 8);
    }

    private static void onFullAndEmpty() {
        Check.says("clash, clashes, roomClash on a full object, on an empty one");
        BookIndex empty = Made.empty();
        Check.due("clash", empty.clash(0, 1, 0), -1);
        Check.due("clashes", empty.clashes(0, 1, 0, 1), -1);
        Check.due("roomClash", empty.roomClash(0, 0, 0), -1);
        BookIndex full = new BookIndex();
        for (int i = 0; i < 12; i++) {
            Check.book(full, "book 7 at " + 120 * i + " for 120 every 1 days from 2000 1 1");
        }
        Check.due("twelve that fill every day", full.roomClash(7, 0, 0), -1);
        Check.due("two next to each other", full.clash(10, 11, 0), -1);
        Check.due("the last and the first", full.clash(11, 0, 0), -1);
        Check.due("counted", full.clashes(11, 0, 0, 399), 0);
        full.move(11, 30000, 1440 * 30000 + 1319);
        Check.due("one of the last a minute ahead", full.roomClash(7, 0, 0), 1440 * 30000 + 1319);
        Check.due("its one", full.roomClash(7, 0, 1), 10);
        Check.due("its other", full.roomClash(7, 0, 2), 11);
        Check.due("counted on its day", full.clashes(10, 11, 29990, 30010), 1);
        Check.due("of a thirteenth", full.clash(11, 12, 0), -1);
    }

    public static void main(String[] args) {
        clashAtOrBehind();
        farApart();
        changesInTheWay();
        clashRefused();
        clashesCounted();
        clashesRefused();
        room();
        roomOfSeveral();
        roomRefused();
        onFullAndEmpty();
        Check.close();
    }
}
