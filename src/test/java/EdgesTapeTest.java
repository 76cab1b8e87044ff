/** Promises 1 to 5, each sentence at its bounds: a new object, feed, end, book, cancel. */
public final class EdgesTapeTest {
    private static final long BLANKS = 0x2020202020202020L;
    private static final String ONE = "book 1 at 0 for 1 once from 2000 1 1";

    private static void newObject() {
        Check.says("A new object: No BOOKINGS; an empty TAPE");
        BookIndex x = new BookIndex();
        Check.due("bookings", x.told(0), 0);
        Check.due("bytes", x.told(1), 0);
        Check.due("rooms", x.told(2), 0);
        Check.due("images", x.told(3), 0);
        Check.due("end 0", x.end(0), 0);
        Check.due("end 1", x.end(1), -1);
        Check.due("book", x.book(), -3);
        Check.due("cancel", x.cancel(0), false);
        Check.due("of", x.of(0, 0), -2);
        Check.due("next", x.next(0, 0, 0), -1);
        Check.due("count", x.count(0, 0, 1), -1);
        Check.due("period", x.period(0), -1);
        Check.due("split", x.split(0, 1), -1);
        Check.due("back", x.back(0), false);
        BookIndex other = Made.full();
        Check.due("bookings of another object", other.told(0), 12);
        Check.due("bookings of the first, still", x.told(0), 0);
        Check.due("bookings of a new one behind a full one", new BookIndex().told(0), 0);
    }

    private static void feedCounts() {
        Check.says("feed: 24 bytes come behind the TAPE: how many it has");
        BookIndex x = new BookIndex();
        for (int i = 1; i <= 7; i++) {
            Check.due("feed " + i, x.feed(BLANKS, BLANKS, BLANKS), 24 * i);
            Check.due("told behind feed " + i, x.told(1), 24 * i);
        }
        Check.says("feed: NONE, and none come, if it would have more than 168");
        Check.due("feed to 192", x.feed(0, 0, 0), -1);
        Check.due("told 168", x.told(1), 168);
        x.end(145);
        Check.due("feed to 169", x.feed(0, 0, 0), -1);
        Check.due("told 145", x.told(1), 145);
        Check.due("end 146", x.end(146), -1);
        x.end(144);
        Check.due("feed to 168", x.feed(BLANKS, BLANKS, BLANKS), 168);
        x.end(160);
        Check.due("feed to 184", x.feed(0, 0, 0), -1);
        Check.due("all of them are blanks still", x.book(), -2 - (8 * 160 + 1));
        Check.due("feed on an empty one", x.feed(0, 0, 0), 24);
    }

    /** A byte of each of the 24 places is told by the place of the fault that it makes. */
    private static void feedOrder() {
        Check.says("feed: 24 bytes, of each the highest first");
        for (int place = 0; place < 24; place++) {
            long[] longs = {BLANKS, BLANKS, BLANKS};
            longs[place / 8] ^= 3L << 56 - 8 * (place % 8);
            BookIndex x = new BookIndex();
            x.feed(longs[0], longs[1], longs[2]);
            Check.due("a # at " + place, x.book(), -2 - (8 * place + 1));
            x.feed(BLANKS, BLANKS, BLANKS);
            x.feed(longs[0], longs[1], longs[2]);
            Check.due("a # at " + (24 + place), x.book(), -2 - (8 * (24 + place) + 1));
        }
        BookIndex x = new BookIndex();
        x.feed(-1L, Long.MIN_VALUE, Long.MAX_VALUE);
        Check.due("bytes of 255, 128, 127", x.told(1), 24);
        x.feed(BLANKS, BLANKS, BLANKS);
        Check.due("a byte of 255", x.book(), -3);
    }

    private static void end() {
        Check.says("end: The TAPE has its first n bytes alone: n");
        BookIndex x = new BookIndex();
        Check.due("end 0 of 0", x.end(0), 0);
        x.feed(BLANKS, BLANKS, BLANKS);
        Check.due("end 24 of 24", x.end(24), 24);
        Check.due("end 23 of 24", x.end(23), 23);
        Check.due("told 23", x.told(1), 23);
        Check.due("end 1 of 23", x.end(1), 1);
        Check.due("end 0 of 1", x.end(0), 0);
        Check.due("told 0", x.told(1), 0);
        Check.says("end: NONE: it has not so many, n is below 0");
        Check.due("end 1 of 0", x.end(1), -1);
        x.feed(BLANKS, BLANKS, BLANKS);
        for (int n : new int[] {25, 168, 169, Integer.MAX_VALUE, -1, Integer.MIN_VALUE}) {
            Check.due("end " + n + " of 24", x.end(n), -1);
            Check.due("told behind end " + n, x.told(1), 24);
        }
        for (int i = 0; i < 6; i++) {
            x.feed(BLANKS, BLANKS, BLANKS);
        }
        Check.due("end 169 of 168", x.end(169), -1);
        Check.due("end 168 of 168", x.end(168), 168);
        Check.due("end 167 of 168", x.end(167), 167);
        Check.due("end 168 of 167", x.end(168), -1);
    }

    private static void endThenFeed() {
        Check.says("end: its first n bytes alone; feed: bytes come behind the TAPE");
        BookIndex x = new BookIndex();
        x.feed(0x626f6f6b23232323L, BLANKS, BLANKS);
        x.end(4);
        // " 5 at 6 for 7 once from " behind "book"
        x.feed(0x2035206174203620L, 0x666f722037206f6eL, 0x63652066726f6d20L);
        x.feed(0x3230303020312031L, 0x2323232323232323L, BLANKS);
        Check.due("told", x.told(1), 52);
        x.end(36);
        Check.due("book", x.book(), 0);
        Check.due("room", x.of(0, 0), 5);
        Check.due("length", x.of(0, 2), 7);
    }

    private static void bookNumbers() {
        Check.says("book: The TAPE (empty then) is a BOOKING: its number");
        BookIndex x = new BookIndex();
        for (int i = 0; i < 12; i++) {
            Check.due("booking " + i, Check.book(x, "book " + i % 8 + " at " + i + " for 1 once from 2000 1 1"), i);
            Check.due("bytes behind it", x.told(1), 0);
            Check.due("bookings", x.told(0), i + 1);
            Check.due("its minute", x.of(i, 1), i);
        }
        Check.says("book: NONE: 12 there are");
        Check.due("a thirteenth", Check.book(x, ONE), -1);
        Check.due("bookings", x.told(0), 12);
        Check.due("bytes behind it", x.told(1), 0);
        for (int i = 0; i < 12; i++) {
            Check.due("its minute as it was", x.of(i, 1), i);
        }
        x.cancel(0);
        Check.due("a twelfth again", Check.book(x, ONE), 11);
        Check.due("one more", Check.book(x, ONE), -1);
    }

    private static void bookFaults() {
        Check.says("book: -2 less (8 * place + kind) of the FAULT");
        BookIndex x = new BookIndex();
        Check.due("an empty tape", x.book(), -2 - 1);
        Check.due("a wrong number at 5", Check.book(x, "book 8"), -2 - (8 * 5 + 2));
        Check.due("until ahead at 43", Check.book(x, "book 1 at 0 for 1 once from 2000 1 2 until 2000 1 1"),
                -2 - (8 * 43 + 3));
        Check.due("the farthest place", Check.book(x, " ".repeat(159) + "#"), -2 - (8 * 159 + 1));
        Check.due("the end of 160 bytes", Check.book(x, " ".repeat(160)), -2 - (8 * 160 + 1));
        Check.due("no bookings", x.told(0), 0);
        Check.due("a booking behind faults", Check.book(x, ONE), 0);
        Check.due("a fault behind a booking", Check.book(x, "book 8"), -2 - (8 * 5 + 2));
        Check.due("one there is", x.told(0), 1);
        Check.due("as it was", x.of(0, 0), 1);
    }

    private static void bookRefused() {
        Check.says("book: NONE: more than 160 bytes, 12 there are (these ahead of FAULTS)");
        BookIndex x = new BookIndex();
        Check.due("161 bytes, no fault", Check.book(x, ONE + " ".repeat(161 - ONE.length())), -1);
        Check.due("161 bytes, a fault", Check.book(x, "#".repeat(161)), -1);
        Check.due("168 bytes, a fault", Check.book(x, "#".repeat(168)), -1);
        Check.due("160 bytes, a fault", Check.book(x, "#".repeat(160)), -3);
        Check.due("160 bytes, no fault", Check.book(x, ONE + " ".repeat(160 - ONE.length())), 0);
        for (int i = 1; i < 11; i++) {
            Check.book(x, ONE);
        }
        Check.due("eleven there are, a fault", Check.book(x, "#"), -3);
        Check.due("the twelfth", Check.book(x, ONE), 11);
        Check.due("twelve there are, a fault", Check.book(x, "#"), -1);
        Check.due("twelve there are, an empty tape", x.book(), -1);
        Check.due("twelve there are, 161 bytes", Check.book(x, "#".repeat(161)), -1);
    }

    /** A booking that was not taken leaves nothing to the next one. */
    private static void bookAnew() {
        Check.says("book: a BOOKING is as its own text tells");
        BookIndex x = new BookIndex();
        Check.book(x, "book 1 at 0 for 1 every 1 days from 2000 1 1 until 2000 2 1");
        x.drop(0, 3);
        x.move(0, 4, 9);
        x.cancel(0);
        Check.due("another", Check.book(x, "book 1 at 0 for 1 every 1 days from 2000 1 1"), 0);
        Check.due("no until", x.of(0, 8), -1);
        Check.due("no times", x.of(0, 9), -1);
        Check.due("none dropped", x.of(0, 10), 0);
        Check.due("none moved", x.of(0, 11), 0);
        Check.due("a fault behind times", Check.book(x, "book 1 at 0 for 1 every 1 days from 2000 1 1 times 3 x"),
                -2 - (8 * 53 + 1));
        Check.due("another still", Check.book(x, "book 1 at 0 for 1 every 1 days from 2000 1 1"), 1);
        Check.due("no times of it", x.of(1, 9), -1);
        Check.due("its last key", x.of(1, 13), 36524);
        BookIndex y = new BookIndex();
        for (String month : new String[] {"5", "1", "9"}) {
            Check.due("in month " + month, Check.book(y, "book 1 at 0 for 1 every 1 days from 2000 " + month + " 1"), 0);
            Check.due("its first key", y.of(0, 12), y.day(2000, Integer.parseInt(month), 1));
            y.cancel(0);
        }
        Check.book(y, "book 1 at 0 for 1 every 1 days from 2000 1 1");
        y.split(0, 50);
        y.cancel(1);
        Check.due("where one was split off", Check.book(y, "book 1 at 0 for 1 every 1 days from 2000 1 2 times 9"), 1);
        Check.due("its first key", y.of(1, 12), 1);
        Check.due("its last key", y.of(1, 13), 9);
    }

    private static void cancel() {
        Check.says("cancel: A BOOKING goes; those behind it are one less: true");
        BookIndex x = new BookIndex();
        for (int i = 0; i < 12; i++) {
            Check.book(x, "book 1 at " + i + " for 1 every 1 days from 2000 1 1");
            x.drop(i, i);
        }
        Check.due("the first", x.cancel(0), true);
        Check.due("the last", x.cancel(10), true);
        Check.due("one between", x.cancel(4), true);
        int[] minutes = {1, 2, 3, 4, 6, 7, 8, 9, 10};
        Check.due("nine there are", x.told(0), 9);
        for (int i = 0; i < 9; i++) {
            Check.due(i + "-th minute", x.of(i, 1), minutes[i]);
            Check.due(i + "-th has its dropped one", x.restore(i, minutes[i]), 1);
        }
        Check.due("no tenth", x.of(9, 1), -2);
        Check.says("cancel: false: others");
        for (int b : Outside.bookings(9)) {
            Check.due("cancel " + b, x.cancel(b), false);
        }
        Check.due("nine there are still", x.told(0), 9);
        for (int i = 0; i < 9; i++) {
            Check.due("cancel the first of " + (9 - i), x.cancel(0), true);
        }
        Check.due("cancel of none", x.cancel(0), false);
        Check.due("none there are", x.told(0), 0);
        Check.due("no rooms", x.told(2), 0);
    }

    public static void main(String[] args) {
        newObject();
        feedCounts();
        feedOrder();
        end();
        endThenFeed();
        bookNumbers();
        bookFaults();
        bookRefused();
        bookAnew();
        cancel();
        Check.close();
    }
}
