import java.time.YearMonth;

/** Promises 6 to 9, each sentence at its bounds: day, date, key, keys. */
public final class EdgesDatesTest {
    private static void day() {
        Check.says("day: The DAY of a date");
        int first = 0;
        BookIndex x = new BookIndex();
        for (int year = 2000; year <= 2099; year++) {
            x = new BookIndex();
            for (int month = 1; month <= 12; month++) {
                int days = YearMonth.of(year, month).lengthOfMonth();
                Check.due("first of " + year + " " + month, x.day(year, month, 1), first);
                Check.due("last of " + year + " " + month, x.day(year, month, days), first + days - 1);
                Check.due("ahead of the first of " + year + " " + month, x.day(year, month, 0), -1);
                Check.due("behind the last of " + year + " " + month, x.day(year, month, days + 1), -1);
                first += days;
            }
            Check.due("month 0 of " + year, x.day(year, 0, 1), -1);
            Check.due("month 13 of " + year, x.day(year, 13, 1), -1);
        }
        Check.due("all of them", first, 36525);
        Check.says("day: NONE: none such");
        int[] far = {Integer.MIN_VALUE, Integer.MIN_VALUE + 1, -1, 0, Integer.MAX_VALUE - 1, Integer.MAX_VALUE};
        for (int n : far) {
            Check.due("year " + n, x.day(n, 1, 1), -1);
            Check.due("month " + n, x.day(2000, n, 1), -1);
            Check.due("day " + n, x.day(2000, 1, n), -1);
            Check.due("all of them " + n, x.day(n, n, n), -1);
        }
        Check.due("the year ahead of the first", x.day(1999, 12, 31), -1);
        Check.due("the year behind the last", x.day(2100, 1, 1), -1);
    }

    private static void date() {
        Check.says("date: Of a DAY, what 0: year, 1: month, 2: day, 3: WEEKDAY, 4: how many days its month has");
        int[][] dates = {{0, 2000, 1, 1, 5, 31}, {30, 2000, 1, 31, 0, 31}, {31, 2000, 2, 1, 1, 29}, {59, 2000, 2, 29, 1, 29},
            {60, 2000, 3, 1, 2, 31}, {365, 2000, 12, 31, 6, 31}, {366, 2001, 1, 1, 0, 31}, {424, 2001, 2, 28, 2, 28},
            {425, 2001, 3, 1, 3, 31}, {1460, 2003, 12, 31, 2, 31}, {1461, 2004, 1, 1, 3, 31}, {36159, 2098, 12, 31, 2, 31},
            {36160, 2099, 1, 1, 3, 31}, {36218, 2099, 2, 28, 5, 28}, {36493, 2099, 11, 30, 0, 30}, {36524, 2099, 12, 31, 3, 31}};
        BookIndex x = new BookIndex();
        for (int[] d : dates) {
            for (int what = 0; what <= 4; what++) {
                Check.due("date " + d[0] + " " + what, x.date(d[0], what), d[what + 1]);
            }
        }
        Check.says("date: NONE: others");
        for (int what = 0; what <= 4; what++) {
            for (int day : Outside.DAYS) {
                Check.due("date " + day + " " + what, x.date(day, what), -1);
            }
        }
        for (int what : Outside.whats(4)) {
            Check.due("date 0 " + what, x.date(0, what), -1);
            Check.due("date 36524 " + what, x.date(36524, what), -1);
        }
    }

    private static void key() {
        Check.says("key: The least KEY of a BOOKING from a DAY on");
        BookIndex x = Texts.good("book 1 at 60 for 1 every 10 days from 2000 1 11 until 2000 2 20");
        int[][] asked = {{0, 10}, {9, 10}, {10, 10}, {11, 20}, {19, 20}, {20, 20}, {49, 50}, {50, 50}};
        for (int[] a : asked) {
            Check.due("key from " + a[0], x.key(0, a[0]), a[1]);
        }
        Check.says("key: DROPPED or not");
        x.drop(0, 20);
        x.move(0, 30, 5);
        Check.due("a dropped one", x.key(0, 11), 20);
        Check.due("a dropped one, at it", x.key(0, 20), 20);
        Check.due("a moved one", x.key(0, 21), 30);
        Check.says("key: NONE: others, none");
        Check.due("behind the last key", x.key(0, 51), -1);
        Check.due("on the last day", x.key(0, 36524), -1);
        for (int day : Outside.DAYS) {
            Check.due("key from " + day, x.key(0, day), -1);
        }
        for (int b : Outside.bookings(1)) {
            Check.due("key of " + b, x.key(b, 0), -1);
        }
        BookIndex none = Texts.good("book 1 at 60 for 1 every 12 months on 31 from 2000 4 1");
        Check.due("of no key", none.key(0, 0), -1);
        BookIndex ends = Texts.good("book 1 at 60 for 1 every 36 days from 2000 1 1 times 1");
        Check.due("day 0", ends.key(0, 0), 0);
        Check.due("day 1", ends.key(0, 1), -1);
        BookIndex last = Texts.good("book 1 at 60 for 1 once from 2099 12 31");
        Check.due("the last day", last.key(0, 36524), 36524);
        Check.due("from the first day on", last.key(0, 0), 36524);
    }

    private static void keys() {
        Check.says("keys: How many KEYS it has from a DAY to another one, both counted");
        BookIndex x = Texts.good("book 1 at 60 for 1 every 10 days from 2000 1 11 until 2000 2 20");
        int[][] asked = {{0, 36524, 5}, {10, 50, 5}, {10, 49, 4}, {11, 50, 4}, {11, 49, 3}, {10, 10, 1}, {9, 9, 0},
            {11, 19, 0}, {0, 9, 0}, {51, 36524, 0}, {0, 0, 0}, {36524, 36524, 0}, {0, 10, 1}, {50, 36524, 1}};
        for (int[] a : asked) {
            Check.due("keys from " + a[0] + " to " + a[1], x.keys(0, a[0], a[1]), a[2]);
        }
        x.drop(0, 20);
        x.move(0, 30, 5);
        Check.due("dropped and moved ones too", x.keys(0, 0, 36524), 5);
        Check.due("a moved one where its key is", x.keys(0, 30, 30), 1);
        Check.due("and not where it is", x.keys(0, 0, 0), 0);
        Check.says("keys: NONE: others, the second one ahead of the first");
        Check.due("backwards", x.keys(0, 11, 10), -1);
        Check.due("far backwards", x.keys(0, 36524, 0), -1);
        for (int day : Outside.DAYS) {
            Check.due("keys from " + day, x.keys(0, day, 36524), -1);
            Check.due("keys to " + day, x.keys(0, 0, day), -1);
            Check.due("keys from and to " + day, x.keys(0, day, day), -1);
        }
        for (int b : Outside.bookings(1)) {
            Check.due("keys of " + b, x.keys(b, 0, 36524), -1);
        }
        BookIndex all = Texts.good("book 1 at 60 for 1 every 1 days from 2000 1 1");
        Check.due("every day there is", all.keys(0, 0, 36524), 36525);
        Check.due("the first day", all.keys(0, 0, 0), 1);
        Check.due("the last day", all.keys(0, 36524, 36524), 1);
    }

    /** From each day at a key or next to one to each other such day. */
    private static void windows(String rule, int... keys) {
        String text = "book 1 at 60 for 1 " + rule;
        for (int a : keys) {
            for (int from = a - 1; from <= a + 1; from++) {
                BookIndex x = Texts.good(text);
                for (int b : keys) {
                    for (int to = b - 1; to <= b + 1; to++) {
                        int want = 0;
                        for (int key : keys) {
                            want += from <= key && key <= to ? 1 : 0;
                        }
                        boolean due = from >= 0 && from <= to && to <= 36524;
                        Check.due(rule + ": keys from " + from + " to " + to, x.keys(0, from, to), due ? want : -1);
                    }
                }
            }
        }
    }

    private static void keysOfEachRule() {
        Check.says("keys: from a DAY to another one, both counted, of each RULE");
        windows("once from 2000 1 11", 10);
        windows("every 3 days from 2000 1 2 times 5", 1, 4, 7, 10, 13);
        windows("every 3 weeks tue sat from 2000 1 5 until 2000 3 6", 7, 24, 28, 45, 49);
        windows("every 1 weeks mon from 2000 1 3 times 4", 2, 9, 16, 23);
        windows("every 4 weeks sun from 2000 1 1 times 4", 1, 29, 57, 85);
        windows("every 2 months on 31 from 2000 1 1 times 4", 30, 90, 151, 212);
        windows("every 1 months end 2 from 2000 1 1 times 4", 29, 58, 89, 119);
        windows("every 1 months nth 5 sat from 2000 1 1 times 2", 28, 119);
        windows("every 1 months last tue from 2000 1 1 times 3", 24, 59, 87);
        windows("every 1 years from 2000 2 29 times 3", 59, 1520, 2981);
        windows("every 1 days from 2099 12 29", 36522, 36523, 36524);
        windows("every 1 days from 2000 1 1 times 3", 0, 1, 2);
    }

    private static void onFullAndEmpty() {
        Check.says("key, keys on a full object, on an empty one");
        BookIndex full = Made.full();
        Check.due("key of the twelfth", full.key(11, 0), 11);
        Check.due("keys of the twelfth", full.keys(11, 0, 35), 3);
        Check.due("key of a thirteenth", full.key(12, 0), -1);
        Check.due("keys of a thirteenth", full.keys(12, 0, 35), -1);
        Check.due("key of the first, with 16 changes", full.key(0, 1), 1);
        Check.due("keys of the first, with 16 changes", full.keys(0, 0, 99), 100);
        BookIndex empty = Made.empty();
        Check.due("key of none", empty.key(0, 0), -1);
        Check.due("keys of none", empty.keys(0, 0, 1), -1);
        Check.due("a day needs no booking", empty.day(2000, 1, 2), 1);
        Check.due("a date needs no booking", empty.date(1, 2), 2);
    }

    public static void main(String[] args) {
        day();
        date();
        key();
        keys();
        keysOfEachRule();
        onFullAndEmpty();
        Check.close();
    }
}
