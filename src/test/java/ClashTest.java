/** Promises 18 to 20: the first clash of two, how many there are, the first of a room. */
public final class ClashTest {
    private static BookIndex two(String one, String other) {
        BookIndex x = new BookIndex();
        Check.due(one, Check.book(x, one), 0);
        Check.due(other, Check.book(x, other), 1);
        return x;
    }

    private static void ends() {
        BookIndex x = two("book 1 at 100 for 50 once from 2000 1 11", "book 2 at 150 for 50 once from 2000 1 11");
        Check.due("one behind the other", x.clash(0, 1, 0), -1);
        Check.due("none counted", x.clashes(0, 1, 0, 399), 0);
        int begin = Check.time(10, 100);
        x.move(1, 10, begin + 49);
        Check.due("a minute in common", x.clash(0, 1, 0), begin + 49);
        Check.due("the other way round", x.clash(1, 0, 0), begin + 49);
        Check.due("at that time", x.clash(0, 1, begin + 49), begin + 49);
        Check.due("behind that time", x.clash(0, 1, begin + 50), -1);
        Check.due("one counted", x.clashes(0, 1, 10, 10), 1);
        x.move(1, 10, begin);
        Check.due("at once", x.clash(0, 1, 0), begin);
        Check.due("at once counted once", x.clashes(1, 0, 0, 399), 1);
        x.move(1, 10, begin - 50);
        Check.due("ahead", x.clash(0, 1, 0), -1);
        x.move(1, 10, begin - 49);
        Check.due("just into it", x.clash(0, 1, 0), begin);
        x.drop(1, 10);
        Check.due("dropped", x.clash(0, 1, 0), -1);
    }

    private static void wrongAsked() {
        BookIndex x = two("book 1 at 0 for 4320 every 1 days from 2000 1 1", "book 1 at 0 for 1 every 1 days from 2000 1 1");
        Check.due("with itself", x.clash(0, 0, 0), -1);
        Check.due("with none", x.clash(0, 2, 0), -1);
        Check.due("with -1", x.clash(-1, 0, 0), -1);
        Check.due("from -1", x.clash(0, 1, -1), -1);
        Check.due("from no time", x.clash(0, 1, 52596000), -1);
        Check.due("from the last time", x.clash(0, 1, 52595999), -1);
        Check.due("counted with itself", x.clashes(1, 1, 0, 1), -1);
        Check.due("counted with none", x.clashes(0, 2, 0, 1), -1);
        Check.due("counted backwards", x.clashes(0, 1, 1, 0), -1);
        Check.due("counted from -1", x.clashes(0, 1, -1, 0), -1);
        Check.due("counted to 36525", x.clashes(0, 1, 36524, 36525), -1);
        Check.due("counted in 401 days", x.clashes(0, 1, 0, 400), -1);
        Check.due("counted in 400 days", x.clashes(0, 1, 1000, 1399), 1200);
        Check.due("room -1", x.roomClash(-1, 0, 0), -1);
        Check.due("room 8", x.roomClash(8, 0, 0), -1);
        Check.due("room's what -1", x.roomClash(1, 0, -1), -1);
        Check.due("room's what 3", x.roomClash(1, 0, 3), -1);
        Check.due("room from -1", x.roomClash(1, -1, 0), -1);
        Check.due("room from no time", x.roomClash(1, 52596000, 0), -1);
    }

    private static void sparse() {
        BookIndex x = two("book 0 at 5 for 1 every 997 days from 2000 1 1", "book 1 at 5 for 1 every 36 days from 2000 1 2");
        // 997 a = 36 b + 1: a = 13, b = 360
        Check.due("997 and 36 days", x.clash(0, 1, 0), Check.time(12961, 5));
        Check.due("once in 36524 days", x.clash(0, 1, Check.time(12961, 6)), -1);
        BookIndex y = two("book 0 at 5 for 1 every 1 months on 29 from 2001 2 1", "book 1 at 5 for 1 every 12 months end 1 from 2001 2 1");
        Check.due("a 29 Feb", y.clash(0, 1, 0), Check.time(y.day(2004, 2, 29), 5));
    }

    private static void never() {
        BookIndex x = two("book 0 at 5 for 1 every 1 days from 2000 1 1", "book 1 at 6 for 1439 every 1 days from 2000 1 1");
        for (int i = 0; i < 200; i++) {
            Check.due("daily, never", x.clash(0, 1, 1000 * i), -1);
        }
        x.move(0, 30000, Check.time(30000, 6));
        Check.due("but for a moved one", x.clash(0, 1, 0), Check.time(30000, 6));
        x.move(1, 20000, Check.time(20001, 5));
        Check.due("or one of the other", x.clash(0, 1, 0), Check.time(20001, 5));
    }

    /** All changes of both are in the way of the first clashes. */
    private static void spoilt() {
        BookIndex x = two("book 0 at 0 for 1 every 7 days from 2000 1 1", "book 1 at 0 for 1 every 5 days from 2000 1 1");
        for (int i = 0; i < 16; i++) {
            Check.due("drop " + i, x.drop(0, 70 * i), true);
            Check.due("drop of the other " + i, x.drop(1, 70 * i + 35), true);
        }
        Check.due("the 33rd", x.clash(0, 1, 0), Check.time(32 * 35, 0));
        Check.due("and the next", x.clash(1, 0, Check.time(32 * 35, 1)), Check.time(33 * 35, 0));
    }

    private static void minutes() {
        BookIndex x = two("book 0 at 1438 for 2 once from 2000 1 3", "book 1 at 1439 for 2 once from 2000 1 3");
        Check.due("at a day's last minute", x.clashes(0, 1, 2, 2), 1);
        Check.due("at a day's last minute, the other way", x.clashes(1, 0, 2, 2), 1);
        Check.due("not on the next day", x.clashes(0, 1, 3, 3), 0);
        x.move(0, 2, 0);
        x.move(1, 2, 0);
        Check.due("at time 0", x.clash(0, 1, 0), 0);
        Check.due("at time 0, counted", x.clashes(0, 1, 0, 0), 1);
        x.move(1, 2, 1);
        Check.due("at time 1", x.clash(1, 0, 0), 1);
        x.move(0, 2, 2);
        Check.due("at time 2", x.clash(1, 0, 0), 2);
        Check.due("at time 2, asked there", x.clash(1, 0, 2), 2);
        x.move(0, 2, 3);
        Check.due("one behind the other", x.clash(1, 0, 0), -1);
        BookIndex y = two("book 0 at 0 for 1 every 1 days from 2000 1 1", "book 1 at 0 for 1 every 2 days from 2000 1 1");
        Check.due("keys 0", y.clash(0, 1, 0), 0);
        Check.due("keys 0, counted", y.clashes(0, 1, 0, 0), 1);
        BookIndex z = two("book 0 at 0 for 10 once from 2000 1 1", "book 1 at 1 for 1 once from 2000 1 1");
        Check.due("key 0 a minute behind key 0", z.clash(0, 1, 0), 1);
        Check.due("key 0 a minute ahead of key 0", z.clash(1, 0, 1), 1);
    }

    private static void begunEarlier() {
        BookIndex x = two("book 0 at 1439 for 4320 once from 2000 1 1", "book 1 at 1438 for 1 every 1 days from 2000 1 1 times 9");
        Check.due("the first", x.clash(0, 1, 0), Check.time(1, 1438));
        Check.due("asked in its midst", x.clash(0, 1, Check.time(3, 0)), Check.time(3, 1438));
        Check.due("asked at its end", x.clash(0, 1, Check.time(3, 1439)), -1);
        Check.due("days 0 to 2", x.clashes(0, 1, 0, 2), 2);
        Check.due("days 3 to 9", x.clashes(0, 1, 3, 9), 1);
    }

    /** A clash of moved ones bounds what is looked for along the rules, and must not hide it. */
    private static void movedToo() {
        BookIndex x = two("book 0 at 10 for 2 every 2 days from 2000 1 1 times 4", "book 1 at 10 for 5 every 1 days from 2000 1 1 times 9");
        x.move(1, 5, 11);
        Check.due("a minute ahead of a moved one's", x.clash(0, 1, 0), 10);
        Check.due("the moved one's", x.clash(0, 1, 11), 11);
        BookIndex y = two("book 0 at 0 for 1 every 10 days from 2000 1 1 times 9", "book 1 at 1 for 1 every 1 days from 2000 1 1 times 20");
        y.move(0, 80, Check.time(100, 7));
        y.move(1, 19, Check.time(100, 7));
        Check.due("moved ones behind the last key of one", y.clash(0, 1, 0), Check.time(100, 7));
    }

    private static void room() {
        BookIndex x = new BookIndex();
        Check.book(x, "book 4 at 0 for 10 once from 2000 1 9");
        Check.book(x, "book 3 at 0 for 10 every 1 days from 2000 1 1 times 9");
        Check.book(x, "book 4 at 0 for 10 once from 2000 1 5");
        Check.book(x, "book 4 at 5 for 10 every 4 days from 2000 1 1 times 9");
        Check.book(x, "book 4 at 5 for 10 every 8 days from 2000 1 1 times 9");
        Check.due("first", x.roomClash(4, 0, 0), 5);
        Check.due("one", x.roomClash(4, 0, 1), 3);
        Check.due("other", x.roomClash(4, 0, 2), 4);
        Check.due("second", x.roomClash(4, 6, 0), Check.time(4, 5));
        Check.due("second's one", x.roomClash(4, 6, 1), 2);
        Check.due("second's other", x.roomClash(4, 6, 2), 3);
        Check.due("of three the less", x.roomClash(4, Check.time(4, 6), 0), Check.time(8, 5));
        Check.due("of three the less one", x.roomClash(4, Check.time(4, 6), 1), 0);
        Check.due("of three the less other", x.roomClash(4, Check.time(4, 6), 2), 3);
        Check.due("one alone", x.roomClash(3, 0, 0), -1);
        Check.due("one alone, what 1", x.roomClash(3, 0, 1), -1);
        Check.due("one alone, what 2", x.roomClash(3, 0, 2), -1);
        Check.due("an empty room", x.roomClash(7, 0, 0), -1);
    }

    public static void main(String[] args) {
        ends();
        wrongAsked();
        sparse();
        never();
        spoilt();
        minutes();
        begunEarlier();
        movedToo();
        room();
        Check.close();
    }
}
