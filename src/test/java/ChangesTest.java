/** Promises 10 to 15: dropped, moved, restored; what is next, ahead, how many. */
public final class ChangesTest {
    private static BookIndex daily() {
        BookIndex x = new BookIndex();
        Check.book(x, "book 1 at 60 for 30 every 1 days from 2000 1 11 times 20");
        return x;
    }

    private static void dropped() {
        BookIndex x = daily();
        Check.due("drop", x.drop(0, 10), true);
        Check.due("drop again", x.drop(0, 10), false);
        Check.due("dropped ones", x.of(0, 10), 1);
        Check.due("drop ahead of the first", x.drop(0, 9), false);
        Check.due("drop behind the last", x.drop(0, 30), false);
        Check.due("drop the last", x.drop(0, 29), true);
        Check.due("drop -1", x.drop(0, -1), false);
        Check.due("drop 36525", x.drop(0, 36525), false);
        Check.due("drop of no booking", x.drop(1, 11), false);
        Check.due("drop of -1", x.drop(-1, 11), false);
        Check.due("count behind drops", x.count(0, 0, 36524), 18);
        Check.due("first behind drops", x.next(0, 0, 1), 11);
        Check.due("last behind drops", x.ahead(0, 52595999, 1), 28);
        Check.due("first key", x.of(0, 12), 10);
        Check.due("last key", x.of(0, 13), 29);
    }

    private static void moved() {
        BookIndex x = daily();
        Check.due("move", x.move(0, 12, 5), true);
        Check.due("moved ones", x.of(0, 11), 1);
        Check.due("moved is first", x.next(0, 0, 1), 12);
        Check.due("moved time", x.next(0, 5, 0), 5);
        Check.due("behind it", x.next(0, 6, 1), 10);
        Check.due("move again", x.move(0, 12, 52595999), true);
        Check.due("moved ones still", x.of(0, 11), 1);
        Check.due("moved is last", x.next(0, 52595999, 1), 12);
        Check.due("ahead of it", x.ahead(0, 52595999, 1), 29);
        Check.due("to no time", x.move(0, 13, 52596000), false);
        Check.due("to -1", x.move(0, 13, -1), false);
        Check.due("no key", x.move(0, 9, 5), false);
        Check.due("no booking", x.move(1, 13, 5), false);
        Check.due("to its own time", x.move(0, 13, Check.time(13, 60)), true);
        Check.due("moved all the same", x.of(0, 11), 2);
        Check.due("restored from there", x.restore(0, 13), 2);
    }

    private static void sixteen() {
        BookIndex x = daily();
        for (int i = 0; i < 16; i++) {
            Check.due("change " + i, i % 2 == 0 ? x.drop(0, 10 + i) : x.move(0, 10 + i, i), true);
        }
        Check.due("a seventeenth dropped", x.drop(0, 26), false);
        Check.due("a seventeenth moved", x.move(0, 26, 0), false);
        Check.due("a dropped one moved", x.move(0, 10, 99), true);
        Check.due("dropped it is no more", x.of(0, 10), 7);
        Check.due("a moved one dropped", x.drop(0, 11), true);
        Check.due("moved it is no more", x.restore(0, 11), 1);
        Check.due("room for another", x.move(0, 26, 0), true);
        Check.due("and no more", x.drop(0, 27), false);
        Check.due("dropped", x.of(0, 10), 7);
        Check.due("moved", x.of(0, 11), 9);
        Check.due("count", x.count(0, 0, 36524), 13);
    }

    private static void restored() {
        BookIndex x = daily();
        Check.due("neither", x.restore(0, 10), 0);
        x.drop(0, 10);
        x.move(0, 11, 7);
        x.move(0, 12, 8);
        x.drop(0, 12);
        Check.due("was dropped", x.restore(0, 10), 1);
        Check.due("was moved", x.restore(0, 11), 2);
        Check.due("was moved, then dropped", x.restore(0, 12), 1);
        Check.due("no key", x.restore(0, 9), -1);
        Check.due("no booking", x.restore(1, 10), -1);
        Check.due("as at first", x.next(0, 0, 0), Check.time(10, 60));
        Check.due("all there", x.count(0, 10, 29), 20);
        Check.due("none changed", x.of(0, 10) + x.of(0, 11), 0);
    }

    private static void order() {
        BookIndex x = daily();
        int time = Check.time(15, 60);
        x.move(0, 20, time);
        x.move(0, 12, time);
        Check.due("of like times the least key", x.next(0, time, 1), 12);
        Check.due("of like times the greatest key", x.ahead(0, time + 1, 1), 20);
        Check.due("at the time itself, not ahead", x.ahead(0, time, 1), 14);
        Check.due("time ahead", x.ahead(0, time, 0), Check.time(14, 60));
        Check.due("behind them", x.next(0, time + 1, 1), 16);
        Check.due("three that day", x.count(0, 15, 15), 3);
        Check.due("none that day", x.count(0, 20, 20), 0);
    }

    private static void nextAndAhead() {
        BookIndex x = daily();
        Check.due("at the first", x.next(0, Check.time(10, 60), 1), 10);
        Check.due("behind the first", x.next(0, Check.time(10, 61), 1), 11);
        Check.due("at the last", x.next(0, Check.time(29, 60), 1), 29);
        Check.due("behind the last", x.next(0, Check.time(29, 61), 1), -1);
        Check.due("ahead of the first", x.ahead(0, Check.time(10, 60), 1), -1);
        Check.due("just behind the first", x.ahead(0, Check.time(10, 61), 0), Check.time(10, 60));
        Check.due("from time 0", x.ahead(0, 0, 0), -1);
        int[] wrong = {-1, 52596000, Integer.MIN_VALUE, Integer.MAX_VALUE};
        for (int time : wrong) {
            Check.due("next from " + time, x.next(0, time, 0), -1);
            Check.due("ahead of " + time, x.ahead(0, time, 0), -1);
        }
        for (int what : new int[] {-1, 2}) {
            Check.due("next what " + what, x.next(0, 0, what), -1);
            Check.due("ahead what " + what, x.ahead(0, 52595999, what), -1);
        }
        Check.due("next of 1", x.next(1, 0, 0), -1);
        Check.due("ahead of 1", x.ahead(1, 52595999, 0), -1);
    }

    private static void counted() {
        BookIndex x = daily();
        Check.due("all", x.count(0, 0, 36524), 20);
        Check.due("one day", x.count(0, 10, 10), 1);
        Check.due("the first two", x.count(0, 0, 11), 2);
        Check.due("none", x.count(0, 30, 36524), 0);
        Check.due("backwards", x.count(0, 11, 10), -1);
        Check.due("from -1", x.count(0, -1, 10), -1);
        Check.due("to 36525", x.count(0, 0, 36525), -1);
        Check.due("of 1", x.count(1, 0, 1), -1);
        x.move(0, 10, Check.time(40, 1439));
        Check.due("moved to its day's last minute", x.count(0, 40, 40), 1);
        x.move(0, 10, Check.time(40, 0));
        Check.due("moved to its day's first minute", x.count(0, 40, 40), 1);
        Check.due("not on its key", x.count(0, 10, 10), 0);
    }

    private static void keyZero() {
        BookIndex x = new BookIndex();
        Check.book(x, "book 1 at 0 for 30 every 1 days from 2000 1 1 times 3");
        Check.due("key 0 at time 0", x.next(0, 0, 1), 0);
        Check.due("time 0", x.next(0, 0, 0), 0);
        Check.due("time 0 is ahead of 1", x.ahead(0, 1, 0), 0);
        Check.due("minute 0 of the next day is not counted", x.count(0, 0, 0), 1);
        x.move(0, 0, 1440);
        Check.due("key 0 moved to another one's time", x.next(0, 1440, 1), 0);
        Check.due("the other one is the last there", x.ahead(0, 1441, 1), 1);
        Check.due("nothing ahead of it", x.ahead(0, 1440, 1), -1);
        x.drop(0, 0);
        Check.due("key 0 dropped", x.restore(0, 0), 1);
        Check.due("key 0 as at first", x.next(0, 0, 1), 0);
    }

    public static void main(String[] args) {
        dropped();
        moved();
        sixteen();
        restored();
        order();
        nextAndAhead();
        counted();
        keyZero();
        Check.close();
    }
}
