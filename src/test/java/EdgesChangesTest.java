/** Promises 10 to 15, each sentence at its bounds: drop, move, restore, next, ahead, count. */
public final class EdgesChangesTest {
    private static final int LAST_TIME = 52595999;

    /** Keys 10, 12, .. 88. */
    private static BookIndex forty() {
        return Texts.good("book 1 at 60 for 30 every 2 days from 2000 1 11 times 40");
    }

    private static int[] noKeys() {
        return new int[] {9, 8, 11, 87, 89, 90, 0, 36524, -1, 36525, Integer.MIN_VALUE, Integer.MAX_VALUE};
    }

    private static void drop() {
        Check.says("drop: The OCCURRENCE of a KEY is DROPPED: true");
        BookIndex x = forty();
        Check.due("the first", x.drop(0, 10), true);
        Check.due("the last", x.drop(0, 88), true);
        Check.due("dropped", x.of(0, 10), 2);
        Check.due("occurrences", x.count(0, 0, 36524), 38);
        Check.due("the first one then", x.next(0, 0, 1), 12);
        Check.due("the last one then", x.ahead(0, LAST_TIME, 1), 86);
        Check.says("drop: (MOVED it is no more)");
        Check.due("moved", x.move(0, 20, 7), true);
        Check.due("dropped then", x.drop(0, 20), true);
        Check.due("moved ones", x.of(0, 11), 0);
        Check.due("dropped ones", x.of(0, 10), 3);
        Check.due("it is not where it was moved to", x.next(0, 0, 0), 1440 * 12 + 60);
        Check.due("it was dropped", x.restore(0, 20), 1);
        Check.due("it is as at first", x.count(0, 20, 20), 1);
        Check.says("drop: false: no such KEY");
        for (int key : noKeys()) {
            Check.due("drop " + key, x.drop(0, key), false);
        }
        Check.says("drop: false: DROPPED");
        Check.due("dropped again", x.drop(0, 10), false);
        Check.due("dropped ones still", x.of(0, 10), 2);
        for (int b : Outside.bookings(1)) {
            Check.due("drop of " + b, x.drop(b, 12), false);
        }
    }

    private static void dropAtSixteen() {
        Check.says("drop: false: 16 of it are DROPPED or MOVED (a MOVED one may be DROPPED then)");
        for (int moved = 0; moved <= 16; moved += 8) {
            BookIndex x = forty();
            for (int i = 0; i < 16; i++) {
                int key = 10 + 2 * i;
                Check.due("change " + i, i < moved ? x.move(0, key, i) : x.drop(0, key), true);
            }
            Check.due("dropped", x.of(0, 10), 16 - moved);
            Check.due("moved", x.of(0, 11), moved);
            Check.due("a seventeenth", x.drop(0, 42), false);
            Check.due("it is there still", x.count(0, 42, 42), 1);
            if (moved > 0) {
                Check.due("a moved one", x.drop(0, 10), true);
                Check.due("a dropped one more", x.of(0, 10), 17 - moved);
                Check.due("a moved one less", x.of(0, 11), moved - 1);
                Check.due("it again", x.drop(0, 10), false);
            }
            Check.due("a seventeenth still", x.drop(0, 42), false);
            Check.due("one restored", x.restore(0, 40) > 0, true);
            Check.due("a sixteenth then", x.drop(0, 42), true);
            Check.due("no more", x.drop(0, 44), false);
        }
    }

    private static void move() {
        Check.says("move: The OCCURRENCE of a KEY is MOVED to a TIME: true");
        BookIndex x = forty();
        Check.due("to the first time", x.move(0, 10, 0), true);
        Check.due("it is there", x.next(0, 0, 0), 0);
        Check.due("its key", x.next(0, 0, 1), 10);
        Check.due("to the last time", x.move(0, 88, LAST_TIME), true);
        Check.due("it is there", x.next(0, LAST_TIME, 0), LAST_TIME);
        Check.due("its key", x.next(0, LAST_TIME, 1), 88);
        Check.says("move: (again, perhaps)");
        Check.due("again", x.move(0, 10, 5), true);
        Check.due("not where it was", x.next(0, 0, 0), 5);
        Check.due("moved ones", x.of(0, 11), 2);
        Check.says("move: (a DROPPED one is DROPPED no more)");
        Check.due("drop", x.drop(0, 20), true);
        Check.due("move", x.move(0, 20, 9), true);
        Check.due("dropped ones", x.of(0, 10), 0);
        Check.due("moved ones", x.of(0, 11), 3);
        Check.due("it is there", x.next(0, 6, 1), 20);
        Check.says("move: false: no such KEY");
        for (int key : noKeys()) {
            Check.due("move " + key, x.move(0, key, 9), false);
        }
        Check.says("move: false: others");
        for (int time : Outside.TIMES) {
            Check.due("to " + time, x.move(0, 30, time), false);
            Check.due("a moved one to " + time, x.move(0, 20, time), false);
        }
        Check.due("it is where it was", x.next(0, 6, 0), 9);
        for (int b : Outside.bookings(1)) {
            Check.due("move of " + b, x.move(b, 12, 9), false);
        }
        Check.due("moved ones still", x.of(0, 11), 3);
    }

    private static void moveAtSixteen() {
        Check.says("move: false: 16 of it (but this one) are DROPPED or MOVED");
        BookIndex x = forty();
        for (int i = 0; i < 16; i++) {
            int key = 10 + 2 * i;
            Check.due("change " + i, i < 8 ? x.move(0, key, i) : x.drop(0, key), true);
        }
        Check.due("a seventeenth", x.move(0, 42, 99), false);
        Check.due("it is as at first", x.next(0, 1440 * 42, 0), 1440 * 42 + 60);
        Check.due("a moved one again", x.move(0, 10, 50), true);
        Check.due("it is there", x.next(0, 8, 0), 50);
        Check.due("a dropped one", x.move(0, 40, 51), true);
        Check.due("it is there", x.next(0, 51, 1), 40);
        Check.due("moved ones", x.of(0, 11), 9);
        Check.due("dropped ones", x.of(0, 10), 7);
        Check.due("a seventeenth still", x.move(0, 42, 99), false);
        Check.due("one restored", x.restore(0, 10), 2);
        Check.due("a sixteenth then", x.move(0, 42, 99), true);
        Check.due("no more", x.move(0, 44, 99), false);
        Check.says("16 of it: of each BOOKING");
        Check.book(x, "book 1 at 60 for 30 every 2 days from 2000 1 11 times 40");
        Check.due("another one's", x.drop(1, 44), true);
        Check.due("another one's moved", x.move(1, 46, 99), true);
    }

    private static void restore() {
        Check.says("restore: The OCCURRENCE of a KEY is as at first: 1 it was DROPPED, 2 it was MOVED; 0: neither");
        BookIndex x = forty();
        Check.due("neither", x.restore(0, 10), 0);
        x.drop(0, 10);
        x.move(0, 88, 0);
        Check.due("dropped", x.restore(0, 10), 1);
        Check.due("moved", x.restore(0, 88), 2);
        Check.due("dropped no more", x.restore(0, 10), 0);
        Check.due("moved no more", x.restore(0, 88), 0);
        Check.due("the first is there", x.next(0, 0, 0), 1440 * 10 + 60);
        Check.due("the last is there", x.ahead(0, LAST_TIME, 0), 1440 * 88 + 60);
        x.drop(0, 20);
        x.move(0, 20, 3);
        Check.due("dropped, then moved", x.restore(0, 20), 2);
        x.move(0, 20, 3);
        x.drop(0, 20);
        Check.due("moved, then dropped", x.restore(0, 20), 1);
        Check.due("all are there", x.count(0, 0, 36524), 40);
        Check.says("restore: NONE: no such KEY");
        for (int key : noKeys()) {
            Check.due("restore " + key, x.restore(0, key), -1);
        }
        for (int b : Outside.bookings(1)) {
            Check.due("restore of " + b, x.restore(b, 10), -1);
        }
    }

    private static void restoreAmongOthers() {
        Check.says("restore: no other one is restored");
        BookIndex x = forty();
        for (int i = 0; i < 16; i++) {
            x.move(0, 10 + 2 * i, 100 + i);
        }
        Check.due("the first", x.restore(0, 10), 2);
        Check.due("the last", x.restore(0, 40), 2);
        Check.due("one between", x.restore(0, 24), 2);
        Check.due("moved ones", x.of(0, 11), 13);
        for (int i = 1; i < 15; i++) {
            int key = 10 + 2 * i;
            if (key != 24) {
                Check.due("moved still " + key, x.next(0, 100 + i, 1), key);
            }
        }
    }

    private static void next() {
        Check.says("next: The first OCCURRENCE that begins at a TIME or behind it, what 0: its TIME, 1: its KEY");
        BookIndex x = forty();
        int first = 1440 * 10 + 60;
        int last = 1440 * 88 + 60;
        int[][] asked = {{0, first}, {first - 1, first}, {first, first}, {first + 1, first + 2880}, {last - 1, last}, {last, last}};
        for (int[] a : asked) {
            Check.due("next from " + a[0], x.next(0, a[0], 0), a[1]);
            Check.due("key of next from " + a[0], x.next(0, a[0], 1), a[1] / 1440);
        }
        Check.says("next: NONE: others, none");
        Check.due("behind the last", x.next(0, last + 1, 0), -1);
        Check.due("key behind the last", x.next(0, last + 1, 1), -1);
        Check.due("at the last time", x.next(0, LAST_TIME, 0), -1);
        for (int time : Outside.TIMES) {
            Check.due("from " + time, x.next(0, time, 0), -1);
        }
        for (int what : Outside.whats(1)) {
            Check.due("what " + what, x.next(0, 0, what), -1);
        }
        for (int b : Outside.bookings(1)) {
            Check.due("of " + b, x.next(b, 0, 0), -1);
        }
    }

    private static void ahead() {
        Check.says("ahead: The last OCCURRENCE that begins ahead of a TIME, likewise");
        BookIndex x = forty();
        int first = 1440 * 10 + 60;
        int last = 1440 * 88 + 60;
        int[][] asked = {{first + 1, first}, {first + 2880, first}, {first + 2881, first + 2880}, {last, last - 2880},
            {last + 1, last}, {LAST_TIME, last}};
        for (int[] a : asked) {
            Check.due("ahead of " + a[0], x.ahead(0, a[0], 0), a[1]);
            Check.due("key ahead of " + a[0], x.ahead(0, a[0], 1), a[1] / 1440);
        }
        Check.says("ahead: NONE: others, none");
        Check.due("at the first", x.ahead(0, first, 0), -1);
        Check.due("key at the first", x.ahead(0, first, 1), -1);
        Check.due("at time 0", x.ahead(0, 0, 0), -1);
        for (int time : Outside.TIMES) {
            Check.due("of " + time, x.ahead(0, time, 0), -1);
        }
        for (int what : Outside.whats(1)) {
            Check.due("what " + what, x.ahead(0, LAST_TIME, what), -1);
        }
        for (int b : Outside.bookings(1)) {
            Check.due("of booking " + b, x.ahead(b, LAST_TIME, 0), -1);
        }
        BookIndex late = Texts.good("book 1 at 1439 for 1 once from 2099 12 31");
        Check.due("what begins at the last time is ahead of none", late.ahead(0, LAST_TIME, 0), -1);
        BookIndex early = Texts.good("book 1 at 0 for 1 once from 2000 1 1");
        Check.due("what begins at time 0 is ahead of 1", early.ahead(0, 1, 0), 0);
        Check.due("and not of 0", early.ahead(0, 0, 0), -1);
    }

    private static void someDropped() {
        Check.says("next, ahead: of DROPPED ones next to each other there is no OCCURRENCE");
        BookIndex x = Texts.good("book 1 at 60 for 30 every 1 days from 2000 1 11 times 16");
        for (int i = 0; i < 7; i++) {
            x.drop(0, 10 + i);
            Check.due("next of " + (i + 1) + " dropped", x.next(0, 0, 1), 11 + i);
            x.drop(0, 25 - i);
            Check.due("ahead of " + (i + 1) + " dropped", x.ahead(0, LAST_TIME, 1), 24 - i);
        }
        Check.due("two are left", x.count(0, 0, 36524), 2);
    }

    private static void allDropped() {
        Check.says("next, ahead: NONE: none");
        BookIndex x = Texts.good("book 1 at 60 for 30 every 1 days from 2000 1 11 times 16");
        for (int i = 0; i < 16; i++) {
            Check.due("drop", x.drop(0, 10 + i), true);
        }
        Check.due("next of all dropped", x.next(0, 0, 0), -1);
        Check.due("ahead of all dropped", x.ahead(0, LAST_TIME, 0), -1);
        Check.due("count of all dropped", x.count(0, 0, 36524), 0);
        Check.due("keys of all dropped", x.keys(0, 0, 36524), 16);
        Check.due("one of them moved", x.move(0, 18, 5), true);
        Check.due("next", x.next(0, 0, 1), 18);
        Check.due("ahead", x.ahead(0, LAST_TIME, 1), 18);
        BookIndex none = Texts.good("book 1 at 60 for 30 every 12 months on 31 from 2000 4 1");
        Check.due("next of no key", none.next(0, 0, 0), -1);
        Check.due("ahead of no key", none.ahead(0, LAST_TIME, 0), -1);
        Check.due("count of no key", none.count(0, 0, 36524), 0);
    }

    private static void count() {
        Check.says("count: How many OCCURRENCES begin from a DAY to another one, both counted");
        BookIndex x = forty();
        int[][] asked = {{0, 36524, 40}, {10, 88, 40}, {11, 88, 39}, {10, 87, 39}, {10, 10, 1}, {9, 9, 0}, {11, 11, 0},
            {0, 9, 0}, {89, 36524, 0}, {0, 0, 0}, {36524, 36524, 0}};
        for (int[] a : asked) {
            Check.due("count from " + a[0] + " to " + a[1], x.count(0, a[0], a[1]), a[2]);
        }
        x.move(0, 20, 1440 * 31);
        Check.due("moved to a day's first minute", x.count(0, 31, 31), 1);
        Check.due("not the day ahead", x.count(0, 29, 29), 0);
        x.move(0, 20, 1440 * 31 + 1439);
        Check.due("moved to a day's last minute", x.count(0, 31, 31), 1);
        Check.due("not the day behind", x.count(0, 33, 33), 0);
        Check.due("not on its key", x.count(0, 20, 20), 0);
        x.move(0, 20, LAST_TIME);
        Check.due("moved to the last time", x.count(0, 36524, 36524), 1);
        x.move(0, 20, 0);
        Check.due("moved to the first time", x.count(0, 0, 0), 1);
        Check.says("count: NONE: others, the second one ahead of the first");
        Check.due("backwards", x.count(0, 11, 10), -1);
        for (int day : Outside.DAYS) {
            Check.due("count from " + day, x.count(0, day, 36524), -1);
            Check.due("count to " + day, x.count(0, 0, day), -1);
        }
        for (int b : Outside.bookings(1)) {
            Check.due("count of " + b, x.count(b, 0, 36524), -1);
        }
    }

    private static void onFullAndEmpty() {
        Check.says("drop to count on a full object, on an empty one");
        BookIndex full = Made.full();
        Check.due("a seventeenth dropped", full.drop(0, 1), false);
        Check.due("a seventeenth moved", full.move(0, 1, 0), false);
        Check.due("the twelfth's first dropped", full.drop(11, 11), true);
        Check.due("the twelfth's second moved", full.move(11, 23, 0), true);
        Check.due("next of the twelfth", full.next(11, 0, 1), 23);
        Check.due("ahead of the twelfth's third", full.ahead(11, 1440 * 35, 1), 23);
        Check.due("count of the twelfth", full.count(11, 0, 35), 2);
        Check.due("the twelfth's first restored", full.restore(11, 11), 1);
        BookIndex empty = Made.empty();
        Check.due("drop", empty.drop(0, 0), false);
        Check.due("move", empty.move(0, 0, 0), false);
        Check.due("restore", empty.restore(0, 0), -1);
        Check.due("next", empty.next(0, 0, 0), -1);
        Check.due("ahead", empty.ahead(0, 1, 0), -1);
        Check.due("count", empty.count(0, 0, 0), -1);
    }

    public static void main(String[] args) {
        drop();
        dropAtSixteen();
        move();
        moveAtSixteen();
        restore();
        restoreAmongOthers();
        next();
        ahead();
        someDropped();
        allDropped();
        count();
        onFullAndEmpty();
        Check.close();
    }
}
