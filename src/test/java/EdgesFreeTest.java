/** Promises 21 to 23, each sentence at its bounds: free, busy, busiest. */
public final class EdgesFreeTest {
    private static final int LAST_TIME = 52595999;
    private static final int SIXTY_DAYS = 60 * 1440;

    private static void freeFrom() {
        Check.says("free: The first TIME from one on at which a ROOM is free for so many MINUTES");
        BookIndex x = Texts.good("book 1 at 100 for 50 every 1 days from 2000 1 11 times 2");
        int begin = 14500;
        int end = 14550;
        int[][] asked = {{begin - 10, 10, begin - 10}, {begin - 10, 11, end}, {begin - 1, 1, begin - 1}, {begin - 1, 2, end},
            {begin, 1, end}, {begin + 20, 1, end}, {end - 1, 1, end}, {end, 1, end}, {end, 1390, end},
            {end, 1391, end + 1440}, {end + 1, 1389, end + 1}, {end + 1, 1390, end + 1440}, {0, 4320, 0}, {begin - 4320, 4320, begin - 4320},
            {begin - 4319, 4320, end + 1440}, {end + 1440, 4320, end + 1440}};
        for (int[] a : asked) {
            Check.due("from " + a[0] + " for " + a[1], x.free(1, a[0], a[1]), a[2]);
        }
        Check.due("another room", x.free(2, begin, 4320), begin);
        x.drop(0, 10);
        Check.due("where one is dropped", x.free(1, begin, 1), begin);
        x.move(0, 11, 0);
        Check.due("where one is moved to", x.free(1, 0, 1), 50);
        Check.due("where it was moved from", x.free(1, begin + 1440, 1), begin + 1440);
    }

    private static void freeTouching() {
        Check.says("free: between two that are one behind the other");
        BookIndex x = Texts.good("book 1 at 100 for 50 once from 2000 1 1");
        Check.book(x, "book 1 at 150 for 50 once from 2000 1 1");
        Check.book(x, "book 1 at 201 for 50 once from 2000 1 1");
        Check.due("no minute between the first two", x.free(1, 100, 1), 200);
        Check.due("one minute between the next two", x.free(1, 199, 1), 200);
        Check.due("no two minutes", x.free(1, 199, 2), 251);
        Check.book(x, "book 1 at 0 for 4320 once from 2000 1 1");
        Check.due("one over all of them", x.free(1, 0, 1), 4320);
    }

    private static void freeMinutes() {
        Check.says("free: so many MINUTES (1 to 4320)");
        BookIndex x = Texts.good("book 1 at 0 for 10 every 4 days from 2000 1 1");
        Check.due("1", x.free(1, 0, 1), 10);
        Check.due("4320", x.free(1, 0, 4320), 10);
        for (int minutes : new int[] {0, -1, 4321, Integer.MIN_VALUE, Integer.MAX_VALUE}) {
            Check.due("for " + minutes, x.free(1, 0, minutes), -1);
            Check.due("of an empty room for " + minutes, x.free(2, 0, minutes), -1);
        }
    }

    private static void freeFarthest() {
        Check.says("free: at most 60 DAYS behind it");
        BookIndex x = Texts.good("book 1 at 0 for 1440 every 1 days from 2000 1 1 times 60");
        Check.due("60 days behind", x.free(1, 0, 1), SIXTY_DAYS);
        Check.due("60 days behind, the longest", x.free(1, 0, 4320), SIXTY_DAYS);
        Check.due("less than 60 days behind", x.free(1, 1, 1), SIXTY_DAYS);
        Check.book(x, "book 1 at 0 for 1 once from 2000 3 1");
        Check.due("60 days and a minute behind", x.free(1, 0, 1), -1);
        Check.due("60 days behind, a minute later", x.free(1, 1, 1), SIXTY_DAYS + 1);
        BookIndex always = Texts.good("book 1 at 0 for 1440 every 1 days from 2000 1 1");
        Check.due("never", always.free(1, 0, 1), -1);
        Check.due("never, in the midst", always.free(1, 20000000, 1), -1);
        Check.due("never, at the last time", always.free(1, LAST_TIME, 1), -1);
        BookIndex gap = Texts.good("book 1 at 0 for 1439 every 1 days from 2000 1 1");
        Check.due("one minute a day", gap.free(1, 0, 1), 1439);
        Check.due("never two", gap.free(1, 0, 2), -1);
    }

    private static void freeAtTheLastDay() {
        Check.says("free: (what is on behind the last DAY counts, too; it is a TIME of a DAY that there is)");
        BookIndex x = Texts.good("book 1 at 1000 for 4320 once from 2099 12 31");
        int day = 1440 * 36524;
        Check.due("up to its begin", x.free(1, day, 1000), day);
        Check.due("a minute longer", x.free(1, day, 1001), -1);
        Check.due("at its begin", x.free(1, day + 1000, 1), -1);
        Check.due("at the last time", x.free(1, LAST_TIME, 1), -1);
        Check.due("nothing is on behind the last day", x.free(2, LAST_TIME, 4320), LAST_TIME);
        x.move(0, 36524, LAST_TIME);
        Check.due("on in the last minute and behind it", x.free(1, LAST_TIME - 1, 1), LAST_TIME - 1);
        Check.due("not for two", x.free(1, LAST_TIME - 1, 2), -1);
        Check.due("not for the longest", x.free(1, LAST_TIME - 4319, 4320), -1);
        Check.due("for the longest up to it", x.free(1, LAST_TIME - 4320, 4320), LAST_TIME - 4320);
        BookIndex y = Texts.good("book 1 at 1438 for 1 once from 2099 12 31");
        Check.due("the last time is free", y.free(1, LAST_TIME - 1, 4320), LAST_TIME);
        BookIndex z = Texts.good("book 1 at 1438 for 2 once from 2099 12 31");
        Check.due("it ends with the last day", z.free(1, LAST_TIME - 1, 1), -1);
    }

    private static void freeRefused() {
        Check.says("free: NONE: others");
        BookIndex x = Texts.good("book 0 at 0 for 10 every 4 days from 2000 1 1");
        for (int room : Outside.ROOMS) {
            Check.due("room " + room, x.free(room, 0, 1), -1);
        }
        for (int time : Outside.TIMES) {
            Check.due("from " + time, x.free(0, time, 1), -1);
        }
        Check.due("room 0", x.free(0, 0, 1), 10);
        Check.due("room 7", x.free(7, 0, 1), 0);
    }

    private static void busy() {
        Check.says("busy: MINUTES of a DAY in which something of a ROOM is on");
        BookIndex x = Texts.good("book 1 at 1400 for 2000 once from 2000 1 11");
        int[] want = {0, 40, 1440, 520, 0};
        for (int i = 0; i < want.length; i++) {
            Check.due("day " + (9 + i), x.busy(1, 9 + i), want[i]);
        }
        Check.due("another room", x.busy(2, 11), 0);
        Check.says("busy: (each counted once)");
        Check.book(x, "book 1 at 1390 for 20 once from 2000 1 11");
        Check.due("one begins within the other", x.busy(1, 10), 50);
        Check.book(x, "book 1 at 1420 for 5 once from 2000 1 11");
        Check.due("one within another", x.busy(1, 10), 50);
        Check.book(x, "book 1 at 1380 for 10 once from 2000 1 11");
        Check.due("one up to another", x.busy(1, 10), 60);
        Check.book(x, "book 1 at 0 for 1 once from 2000 1 11");
        Check.due("the day's first minute", x.busy(1, 10), 61);
        Check.book(x, "book 1 at 519 for 2 once from 2000 1 13");
        Check.due("a minute over what is on from two days ahead", x.busy(1, 12), 521);
        Check.book(x, "book 3 at 0 for 4320 every 1 days from 2000 1 1");
        Check.due("three at once", x.busy(3, 20), 1440);
        Check.due("the first day", x.busy(3, 0), 1440);
        Check.due("the last day", x.busy(3, 36524), 1440);
        Check.says("busy: NONE: others");
        for (int day : Outside.DAYS) {
            Check.due("day " + day, x.busy(3, day), -1);
        }
        for (int room : Outside.ROOMS) {
            Check.due("room " + room, x.busy(room, 0), -1);
        }
    }

    private static void busyMinutes() {
        Check.says("busy: MINUTES of a DAY: 0 to 1440");
        BookIndex x = Texts.good("book 7 at 0 for 1439 once from 2000 1 11");
        Check.due("but the last minute", x.busy(7, 10), 1439);
        x.move(0, 10, 14401);
        Check.due("but the first minute", x.busy(7, 10), 1439);
        Check.due("none of the next day", x.busy(7, 11), 0);
        x.move(0, 10, 14402);
        Check.due("but the first two", x.busy(7, 10), 1438);
        Check.due("the first of the next day", x.busy(7, 11), 1);
        BookIndex whole = Texts.good("book 0 at 0 for 1440 once from 2000 1 11");
        Check.due("the whole day", whole.busy(0, 10), 1440);
        Check.due("not the day behind", whole.busy(0, 11), 0);
        Check.due("not the day ahead", whole.busy(0, 9), 0);
    }

    private static void busiest() {
        Check.says("busiest: The DAY of these, both counted, with the most of these MINUTES (of several the first)");
        BookIndex x = Texts.good("book 1 at 0 for 20 every 10 days from 2000 1 11 times 3");
        Check.due("of like ones the first", x.busiest(1, 0, 59), 10);
        Check.due("from it on", x.busiest(1, 10, 59), 10);
        Check.due("behind it", x.busiest(1, 11, 59), 20);
        Check.due("up to it", x.busiest(1, 0, 10), 10);
        Check.due("up to the day ahead of it: none, the first", x.busiest(1, 0, 9), 0);
        Check.due("none busy, the first", x.busiest(1, 31, 90), 31);
        x.move(0, 30, 1440 * 40 + 1439);
        Check.due("twenty minutes of two days", x.busiest(1, 21, 60), 41);
        Check.due("the one minute", x.busiest(1, 21, 40), 40);
        Check.due("one day", x.busiest(1, 15, 15), 15);
        Check.due("the first day", x.busiest(1, 0, 0), 0);
        Check.due("the last day", x.busiest(1, 36524, 36524), 36524);
        Check.due("an empty room", x.busiest(2, 5, 9), 5);
        Check.says("busiest: NONE: others");
        for (int day : Outside.DAYS) {
            Check.due("from " + day, x.busiest(1, day, 10), -1);
            Check.due("to " + day, x.busiest(1, 36520, day), -1);
        }
        for (int room : Outside.ROOMS) {
            Check.due("room " + room, x.busiest(room, 0, 1), -1);
        }
        Check.says("busiest: NONE: the second one ahead of the first");
        Check.due("a day ahead", x.busiest(1, 11, 10), -1);
        Check.due("far ahead", x.busiest(1, 36524, 0), -1);
        Check.says("busiest: NONE: more than 60 DAYS");
        Check.due("60 days", x.busiest(1, 11, 70), 20);
        Check.due("61 days", x.busiest(1, 11, 71), -1);
        Check.due("60 days up to the last", x.busiest(1, 36465, 36524), 36465);
        Check.due("61 days up to the last", x.busiest(1, 36464, 36524), -1);
        Check.due("all days", x.busiest(1, 0, 36524), -1);
    }

    private static void onFullAndEmpty() {
        Check.says("free, busy, busiest on a full object, on an empty one");
        BookIndex empty = Made.empty();
        Check.due("free", empty.free(0, 5, 4320), 5);
        Check.due("busy", empty.busy(0, 5), 0);
        Check.due("busiest", empty.busiest(0, 5, 9), 5);
        BookIndex full = new BookIndex();
        for (int i = 0; i < 12; i++) {
            Check.book(full, "book 7 at " + 120 * i + " for 120 every 1 days from 2000 1 1");
        }
        Check.due("twelve fill every day", full.busy(7, 100), 1440);
        Check.due("never free", full.free(7, 0, 1), -1);
        Check.due("the first of like ones", full.busiest(7, 100, 159), 100);
        full.drop(11, 30);
        Check.due("free where one is dropped", full.free(7, 0, 120), 1440 * 30 + 1320);
        Check.due("no longer than that", full.free(7, 0, 121), -1);
        Check.due("busy there", full.busy(7, 30), 1320);
        full.move(0, 31, 0);
        Check.due("free over midnight", full.free(7, 0, 240), 1440 * 30 + 1320);
        Check.due("no longer", full.free(7, 0, 241), -1);
        Check.due("the busiest is not the first", full.busiest(7, 30, 60), 32);
    }

    public static void main(String[] args) {
        freeFrom();
        freeTouching();
        freeMinutes();
        freeFarthest();
        freeAtTheLastDay();
        freeRefused();
        busy();
        busyMinutes();
        busiest();
        onFullAndEmpty();
        Check.close();
    }
}
