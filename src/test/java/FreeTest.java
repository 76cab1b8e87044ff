/** Promises 21 to 23: when a room is free, how busy a day is, the busiest of some. */
public final class FreeTest {
    private static void gaps() {
        BookIndex x = new BookIndex();
        Check.book(x, "book 1 at 100 for 50 every 1 days from 2000 1 1 times 5");
        Check.book(x, "book 1 at 160 for 50 every 1 days from 2000 1 1 times 5");
        Check.book(x, "book 2 at 150 for 10 every 1 days from 2000 1 1 times 5");
        Check.due("ahead of it", x.free(1, 0, 100), 0);
        Check.due("a minute too long", x.free(1, 0, 101), 210);
        Check.due("between", x.free(1, 100, 10), 150);
        Check.due("not between", x.free(1, 100, 11), 210);
        Check.due("in the midst", x.free(1, 149, 1), 150);
        Check.due("over the night", x.free(1, 211, 1329), 211);
        Check.due("over the next night", x.free(1, 211, 1330), Check.time(1, 210));
        Check.due("over no night", x.free(1, 211, 1331), Check.time(4, 210));
        Check.due("longest", x.free(1, 0, 4320), Check.time(4, 210));
        Check.due("another room", x.free(3, 77, 4320), 77);
        for (int wrong : new int[] {0, -1, 4321, Integer.MIN_VALUE, Integer.MAX_VALUE}) {
            Check.due("for " + wrong, x.free(1, 0, wrong), -1);
        }
        Check.due("room -1", x.free(-1, 0, 1), -1);
        Check.due("room 8", x.free(8, 0, 1), -1);
        Check.due("from -1", x.free(1, -1, 1), -1);
        Check.due("from no time", x.free(1, 52596000, 1), -1);
    }

    private static void farthest() {
        BookIndex x = new BookIndex();
        Check.book(x, "book 1 at 0 for 1440 every 1 days from 2000 1 1 times 60");
        Check.due("60 days behind", x.free(1, 0, 1), 86400);
        Check.book(x, "book 1 at 0 for 1 once from 2000 3 1");
        Check.due("a minute more", x.free(1, 0, 1), -1);
        Check.due("from a minute more", x.free(1, 1, 1), 86401);
    }

    private static void lastDay() {
        BookIndex x = new BookIndex();
        Check.due("the last time", x.free(1, 52595999, 4320), 52595999);
        Check.book(x, "book 1 at 1438 for 1 once from 2099 12 31");
        Check.due("the last minute", x.free(1, 52595998, 4320), 52595999);
        x.move(0, 36524, 52595999);
        Check.due("beyond the last day", x.free(1, 52595999, 1), -1);
        Check.due("ahead of it", x.free(1, 52595998, 1), 52595998);
        Check.due("not long enough", x.free(1, 52595998, 2), -1);
        Check.book(x, "book 2 at 1000 for 4320 once from 2099 12 31");
        Check.due("what goes on behind the last day", x.free(2, Check.time(36524, 0), 1000), Check.time(36524, 0));
        Check.due("and a minute more", x.free(2, Check.time(36524, 0), 1001), -1);
    }

    private static void busyDays() {
        BookIndex x = new BookIndex();
        Check.book(x, "book 1 at 1400 for 2000 once from 2000 1 11");
        Check.book(x, "book 1 at 1420 for 10 once from 2000 1 11");
        Check.book(x, "book 1 at 10 for 20 every 1 days from 2000 1 10");
        Check.book(x, "book 1 at 25 for 10 every 1 days from 2000 1 10");
        Check.book(x, "book 2 at 25 for 999 every 1 days from 2000 1 1");
        Check.due("ahead", x.busy(1, 8), 0);
        Check.due("two that meet", x.busy(1, 9), 25);
        Check.due("one in another", x.busy(1, 10), 65);
        Check.due("the whole day", x.busy(1, 11), 1440);
        Check.due("its end", x.busy(1, 12), 3400 - 2 * 1440);
        Check.due("behind", x.busy(1, 13), 25);
        Check.due("the last day", x.busy(1, 36524), 25);
        Check.due("day -1", x.busy(1, -1), -1);
        Check.due("day 36525", x.busy(1, 36525), -1);
        Check.due("room -1", x.busy(-1, 0), -1);
        Check.due("room 8", x.busy(8, 0), -1);
        x.drop(0, 10);
        Check.due("dropped", x.busy(1, 11), 25);
        Check.due("its like", x.busy(2, 11), 999);
    }

    private static void oneMinute() {
        BookIndex x = new BookIndex();
        Check.book(x, "book 1 at 0 for 1 every 1 days from 2000 1 1");
        Check.book(x, "book 1 at 2 for 1 every 1 days from 2000 1 2");
        Check.book(x, "book 1 at 1439 for 1 every 1 days from 2000 1 2");
        Check.due("day 0", x.busy(1, 0), 1);
        Check.due("day 1", x.busy(1, 1), 3);
        Check.due("one minute is the most", x.busiest(1, 0, 0), 0);
        Check.due("free at minute 1", x.free(1, 1440, 1), 1441);
        Check.due("free at minute 3", x.free(1, 1440, 2), 1443);
        Check.book(x, "book 2 at 7 for 1 once from 2000 1 9");
        Check.due("one minute of one day", x.busiest(2, 0, 20), 8);
        for (int i = 3; i < 10; i++) {
            Check.book(x, "book 3 at " + 2 * i + " for 1 every 1 days from 2000 1 1");
        }
        Check.due("every other minute", x.busy(3, 0), 7);
        Check.due("no two of them", x.free(3, 6, 2), 19);
    }

    private static void busiest() {
        BookIndex x = new BookIndex();
        Check.book(x, "book 1 at 0 for 20 every 2 days from 2000 1 11 times 20");
        Check.book(x, "book 1 at 50 for 10 every 3 days from 2000 1 11 times 20");
        Check.due("none busy: the first", x.busiest(1, 0, 9), 0);
        Check.due("of several the first", x.busiest(1, 0, 59), 10);
        Check.due("behind it", x.busiest(1, 11, 59), 16);
        Check.due("the less busy", x.busiest(1, 11, 15), 12);
        Check.due("one day", x.busiest(1, 13, 13), 13);
        Check.due("the last of them", x.busiest(1, 14, 16), 16);
        Check.due("60 days", x.busiest(1, 100, 159), 100);
        Check.due("61 days", x.busiest(1, 100, 160), -1);
        Check.due("backwards", x.busiest(1, 11, 10), -1);
        Check.due("from -1", x.busiest(1, -1, 10), -1);
        Check.due("to 36525", x.busiest(1, 36520, 36525), -1);
        Check.due("to the last", x.busiest(1, 36520, 36524), 36520);
        Check.due("room -1", x.busiest(-1, 0, 1), -1);
        Check.due("room 8", x.busiest(8, 0, 1), -1);
    }

    public static void main(String[] args) {
        gaps();
        farthest();
        lastDay();
        busyDays();
        oneMinute();
        busiest();
        Check.close();
    }
}
