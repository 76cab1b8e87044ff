/** Promises 24 to 26: a booking split at a day; periods of one and of two. */
public final class SplitTest {
    private static void refused() {
        BookIndex x = new BookIndex();
        Check.book(x, "book 1 at 5 for 10 every 10 days from 2000 1 11 until 2000 2 28");
        Check.due("at its first key", x.split(0, 10), -1);
        Check.due("behind its last key", x.split(0, 51), -1);
        Check.due("at -1", x.split(0, -1), -1);
        Check.due("at 36525", x.split(0, 36525), -1);
        Check.due("of 1", x.split(1, 20), -1);
        Check.due("of -1", x.split(-1, 20), -1);
        Check.due("until is as it was", x.of(0, 8), 58);
        Check.due("none is new", x.told(0), 1);
        Check.due("at its last key", x.split(0, 50), 1);
        Check.due("that one again", x.split(1, 50), -1);
        Check.book(x, "book 1 at 5 for 10 once from 2000 1 11");
        Check.due("once", x.split(2, 10), -1);
        for (int i = 3; i < 12; i++) {
            Check.book(x, "book 1 at 5 for 10 once from 2000 1 11");
        }
        Check.due("twelve there are", x.split(0, 20), -1);
        x.cancel(11);
        Check.due("eleven there are", x.split(0, 20), 11);
    }

    private static void withUntil() {
        BookIndex x = new BookIndex();
        Check.book(x, "book 3 at 5 for 10 every 2 weeks mon thu from 2000 1 11");
        Check.due("split", x.split(0, 100), 1);
        int[] head = {3, 5, 10, 2, 2, 10, 9, -1, 99, -1, 0, 0, 12, 96};
        int[] tail = {3, 5, 10, 2, 2, 10, 9, -1, -1, -1, 0, 0, 107, 36524};
        for (int what = 0; what < 14; what++) {
            Check.due("head's " + what, x.of(0, what), head[what]);
            Check.due("tail's " + what, x.of(1, what), tail[what]);
        }
        Check.due("the tail split", x.split(1, 500), 2);
        Check.due("the tail's head", x.of(1, 12), 107);
        Check.due("its until", x.of(1, 8), 499);
        Check.due("the tail's tail", x.of(2, 8), -1);
        Check.due("no key ahead of its day", x.key(2, 0), x.of(2, 12));
    }

    private static void withTimes() {
        BookIndex x = new BookIndex();
        Check.book(x, "book 3 at 5 for 10 every 1 years from 2000 1 11 times 999");
        Check.due("split", x.split(0, 11), 1);
        Check.due("keys ahead", x.of(0, 9), 1);
        Check.due("keys from it on", x.of(1, 9), 99);
        Check.due("no until", x.of(0, 8), -1);
        Check.due("no until of the new one", x.of(1, 8), -1);
        Check.due("last of the first", x.of(0, 13), 10);
        Check.due("first of the new one", x.of(1, 12), 376);
        Check.due("start of the new one", x.of(1, 5), 10);
    }

    private static void changesGoAlong() {
        BookIndex x = new BookIndex();
        Check.book(x, "book 3 at 5 for 10 every 1 days from 2000 1 1 times 40");
        for (int i = 0; i < 16; i++) {
            Check.due("change " + i, i % 3 == 0 ? x.drop(0, 12 + i) : x.move(0, 12 + i, 20000 - i), true);
        }
        Check.due("split", x.split(0, 20), 1);
        Check.due("head's dropped", x.of(0, 10), 3);
        Check.due("head's moved", x.of(0, 11), 5);
        Check.due("tail's dropped", x.of(1, 10), 3);
        Check.due("tail's moved", x.of(1, 11), 5);
        Check.due("all together", x.count(0, 0, 36524) + x.count(1, 0, 36524), 34);
        Check.due("head's moved one is far behind", x.ahead(0, 52595999, 0), 20000 - 1);
        Check.due("tail's first is moved", x.next(1, 0, 1), 27 - 1);
        Check.due("room for changes", x.drop(0, 0), true);
        Check.due("room for changes of the new one", x.drop(1, 39), true);
    }

    private static void fromKeyZero() {
        BookIndex x = new BookIndex();
        Check.book(x, "book 3 at 5 for 10 every 1 days from 2000 1 1 times 40");
        Check.due("key 0 alone ahead", x.split(0, 1), 1);
        Check.due("one", x.of(0, 9), 1);
        Check.due("and the others", x.of(1, 9), 39);
        x.drop(1, 30);
        x.restore(1, 30);
        Check.due("behind a restored change", x.split(1, 20), 2);
        Check.due("none moved", x.of(1, 11), 0);
        Check.due("none moved of the new one", x.of(2, 11), 0);
    }

    private static int period(BookIndex x, String rule) {
        return x.period(Check.book(x, "book 3 at 5 for 10 " + rule + " from 2000 1 1 times 4"));
    }

    private static void periods() {
        BookIndex x = new BookIndex();
        Check.due("once", period(x, "once"), 0);
        Check.due("days", period(x, "every 7 days"), 7);
        Check.due("weeks", period(x, "every 6 weeks mon"), 42);
        Check.due("months", period(x, "every 7 months on 5"), 146097 * 7);
        Check.due("months that go into 4800", period(x, "every 12 months end 5"), 146097);
        Check.due("months in part", period(x, "every 999 months nth 1 mon"), 146097 * 333);
        Check.due("months last", period(x, "every 998 months last mon"), 146097 * 499);
        Check.due("years", period(x, "every 3 years"), 146097 * 3);
        Check.due("years that go into 400", period(x, "every 400 years"), 146097);
        Check.due("most years", period(x, "every 997 years"), 146097 * 997);
        Check.due("of 10", x.period(10), -1);
        Check.due("of -1", x.period(-1), -1);
        Check.due("once and days", x.periodOf(0, 1), 0);
        Check.due("days and once", x.periodOf(1, 0), 0);
        Check.due("days and weeks", x.periodOf(1, 2), 42);
        Check.due("one and itself", x.periodOf(2, 2), 42);
        Check.due("weeks and months", x.periodOf(2, 3), 146097 * 14);
        Check.due("no int", x.periodOf(5, 9), -2);
        Check.due("with none", x.periodOf(0, 10), -1);
        Check.due("none with one", x.periodOf(-1, 0), -1);
        x.split(1, 8);
        Check.due("of a new one", x.period(10), 7);
    }

    public static void main(String[] args) {
        refused();
        withUntil();
        withTimes();
        changesGoAlong();
        fromKeyZero();
        periods();
        Check.close();
    }
}
