/** Promises 24 to 30, each sentence at its bounds: split, period, periodOf, of, image, back, told. */
public final class EdgesShelfTest {
    private static final String DAILY = "book 1 at 0 for 1 every 1 days from 2000 1 11 times 40";

    private static void split() {
        Check.says("split: SPLIT: the new one's number");
        BookIndex x = new BookIndex();
        Check.book(x, DAILY);
        for (int i = 1; i < 12; i++) {
            Check.due("split into " + (i + 1), x.split(0, 50 - i), i);
            Check.due("how many there are", x.told(0), i + 1);
            Check.due("its key", x.of(i, 12), 50 - i);
        }
        Check.says("split: NONE: 12 there are");
        Check.due("a thirteenth", x.split(0, 20), -1);
        Check.due("twelve there are", x.told(0), 12);
        Check.due("its keys are as they were", x.keys(0, 0, 36524), 29);
        Check.due("its times, too", x.of(0, 9), 29);
        x.cancel(5);
        Check.due("a twelfth", x.split(0, 20), 11);
        Check.due("no more", x.split(0, 15), -1);
        Check.says("split: NONE: one would have no KEY");
        BookIndex y = Texts.good(DAILY);
        Check.due("at its first key", y.split(0, 10), -1);
        Check.due("behind its last key", y.split(0, 50), -1);
        Check.due("times as they were", y.of(0, 9), 40);
        Check.due("behind its first key", y.split(0, 11), 1);
        Check.due("at its last key", y.split(1, 49), 2);
        Check.says("split: NONE: others");
        for (int day : Outside.DAYS) {
            Check.due("at " + day, y.split(1, day), -1);
        }
        for (int b : Outside.bookings(3)) {
            Check.due("of " + b, y.split(b, 20), -1);
        }
        Check.due("three there are", y.told(0), 3);
    }

    private static void splitWithSixteen() {
        Check.says("SPLIT: with all that was DROPPED, MOVED of these (16 of them)");
        BookIndex x = Texts.good(DAILY);
        for (int i = 0; i < 16; i++) {
            Check.due("change " + i, i % 2 == 0 ? x.drop(0, 12 + i) : x.move(0, 12 + i, 100 + i), true);
        }
        Check.due("all of them ahead", x.split(0, 28), 1);
        Check.due("dropped", x.of(0, 10), 8);
        Check.due("moved", x.of(0, 11), 8);
        Check.due("none dropped of the new one", x.of(1, 10), 0);
        Check.due("none moved of the new one", x.of(1, 11), 0);
        Check.due("no seventeenth", x.drop(0, 10), false);
        Check.due("one of the new one", x.drop(1, 28), true);
        Check.due("all of them behind", x.split(0, 12), 2);
        Check.due("none dropped then", x.of(0, 10), 0);
        Check.due("none moved then", x.of(0, 11), 0);
        Check.due("dropped of the new one", x.of(2, 10), 8);
        Check.due("moved of the new one", x.of(2, 11), 8);
        for (int i = 0; i < 16; i++) {
            Check.due("restored " + i, x.restore(2, 12 + i), i % 2 == 0 ? 1 : 2);
        }
    }

    private static void periods() {
        BookIndex x = Texts.good(DAILY);
        Check.book(x, "book 1 at 0 for 1 every 999 years from 2000 1 11");
        Check.says("period: PERIOD; NONE: others");
        Check.due("of 0", x.period(0), 1);
        Check.due("of the greatest", x.period(1), 145950903);
        Check.says("periodOf: PERIOD of two, likewise");
        Check.due("of one and itself", x.periodOf(1, 1), 145950903);
        Check.due("of two", x.periodOf(0, 1), 145950903);
        for (int b : Outside.bookings(2)) {
            Check.due("of " + b, x.period(b), -1);
            Check.due("of 0 and " + b, x.periodOf(0, b), -1);
            Check.due("of " + b + " and 0", x.periodOf(b, 0), -1);
            Check.due("of " + b + " twice", x.periodOf(b, b), -1);
        }
        x.split(0, 20);
        Check.due("of a new one", x.period(2), 1);
        Check.due("of a thirteenth", Made.full().period(12), -1);
        Check.due("of the twelfth", Made.full().period(11), 12);
        Check.due("of the eleventh and the twelfth", Made.full().periodOf(10, 11), 132);
        Check.due("of none", Made.empty().period(0), -1);
        Check.due("of two of none", Made.empty().periodOf(0, 0), -1);
    }

    private static void ofIs(String text, int... want) {
        BookIndex x = Texts.good(text);
        for (int what = 0; what < want.length; what++) {
            Check.due(text + ": of " + what, x.of(0, what), want[what]);
        }
    }

    private static void of() {
        Check.says("of: 0: ROOM, 1: MINUTE, 2: LENGTH, 3: RULE, 4: N (0 once), 5: START, 6, 7, 8: until, 9: times, 10, 11, 12, 13");
        ofIs("book 0 at 0 for 1 once from 2000 1 1", 0, 0, 1, 0, 0, 0, 0, -1, -1, -1, 0, 0, 0, 0);
        ofIs("book 7 at 1439 for 4320 once from 2099 12 31 times 999",
                7, 1439, 4320, 0, 0, 36524, 0, -1, -1, 999, 0, 0, 36524, 36524);
        ofIs("book 1 at 2 for 3 every 999 days from 2000 1 2 until 2099 12 31",
                1, 2, 3, 1, 999, 1, 0, -1, 36524, -1, 0, 0, 1, 35965);
        ofIs("book 1 at 2 for 3 every 1 weeks sun from 2000 1 1 times 1", 1, 2, 3, 2, 1, 0, 64, -1, -1, 1, 0, 0, 1, 1);
        ofIs("book 1 at 2 for 3 every 1 weeks mon tue wed thu fri sat sun from 2000 1 1",
                1, 2, 3, 2, 1, 0, 127, -1, -1, -1, 0, 0, 0, 36524);
        ofIs("book 1 at 2 for 3 every 5 months on 31 from 2000 1 1 until 2000 1 1",
                1, 2, 3, 3, 5, 0, 31, -1, 0, -1, 0, 0, -1, -1);
        ofIs("book 1 at 2 for 3 every 5 months end 28 from 2000 1 1", 1, 2, 3, 4, 5, 0, 28, -1, -1, -1, 0, 0, 3, 36375);
        ofIs("book 1 at 2 for 3 every 5 months nth 5 mon from 2000 1 1 times 1",
                1, 2, 3, 5, 5, 0, 5, 0, -1, 1, 0, 0, 30, 30);
        ofIs("book 1 at 2 for 3 every 5 months nth 1 sun from 2000 1 1 times 1",
                1, 2, 3, 5, 5, 0, 1, 6, -1, 1, 0, 0, 1, 1);
        ofIs("book 1 at 2 for 3 every 5 months last mon from 2000 1 1 times 1",
                1, 2, 3, 6, 5, 0, 0, -1, -1, 1, 0, 0, 30, 30);
        ofIs("book 1 at 2 for 3 every 5 months last sun from 2000 1 1 times 1",
                1, 2, 3, 6, 5, 0, 6, -1, -1, 1, 0, 0, 29, 29);
        ofIs("book 1 at 2 for 3 every 999 years from 2000 2 29", 1, 2, 3, 7, 999, 59, 0, -1, -1, -1, 0, 0, 59, 59);
    }

    private static void ofCounts() {
        Check.says("of: 10: DROPPED, 11: MOVED");
        BookIndex x = Texts.good(DAILY);
        for (int i = 1; i <= 16; i++) {
            x.drop(0, 9 + i);
            Check.due("dropped", x.of(0, 10), i);
            Check.due("moved", x.of(0, 11), 0);
        }
        for (int i = 1; i <= 16; i++) {
            x.move(0, 9 + i, i);
            Check.due("dropped", x.of(0, 10), 16 - i);
            Check.due("moved", x.of(0, 11), i);
        }
        Check.says("of: 12: its first KEY, 13: its last one");
        Check.due("first key, a moved one", x.of(0, 12), 10);
        Check.due("last key", x.of(0, 13), 49);
        Check.says("of: -2: others");
        for (int what : Outside.whats(13)) {
            Check.due("what " + what, x.of(0, what), -2);
        }
        for (int b : Outside.bookings(1)) {
            for (int what = 0; what <= 13; what++) {
                Check.due("of " + b + " " + what, x.of(b, what), -2);
            }
        }
        Check.due("of none", Made.empty().of(0, 0), -2);
        Check.due("of the twelfth", Made.full().of(11, 4), 12);
        Check.due("of a thirteenth", Made.full().of(12, 4), -2);
    }

    private static void image() {
        Check.says("image: An IMAGE (0, 1) of all BOOKINGS is made: true; false: others");
        BookIndex x = Texts.good(DAILY);
        for (int i : Outside.IMAGES) {
            Check.due("image " + i, x.image(i), false);
        }
        Check.due("no images", x.told(3), 0);
        Check.due("image 1", x.image(1), true);
        Check.due("images", x.told(3), 2);
        Check.due("image 0", x.image(0), true);
        Check.due("both", x.told(3), 3);
        Check.due("image 0 again", x.image(0), true);
        Check.due("both still", x.told(3), 3);
        Check.says("back: They are as in an IMAGE: true; false: others, none was made");
        BookIndex y = Texts.good(DAILY);
        Check.due("back 0 of none", y.back(0), false);
        y.image(1);
        Check.due("back 0, 1 was made", y.back(0), false);
        Check.due("back 1", y.back(1), true);
        for (int i : Outside.IMAGES) {
            Check.due("back " + i, y.back(i), false);
        }
        BookIndex z = Made.empty();
        Check.due("image of none", z.image(0), true);
        Check.due("back to none", z.back(0), true);
        Check.due("none there are", z.told(0), 0);
        Check.due("the other was not made", z.back(1), false);
    }

    private static void imageOfFull() {
        Check.says("image, back of a full object and of an empty one");
        BookIndex x = Made.empty();
        x.image(0);
        for (int i = 0; i < 12; i++) {
            Check.book(x, "book 1 at " + i + " for 1 every 1 days from 2000 1 11 times 40");
        }
        for (int i = 0; i < 16; i++) {
            x.drop(11, 10 + i);
            x.move(0, 10 + i, i);
        }
        x.image(1);
        Check.due("back to none", x.back(0), true);
        Check.due("none there are", x.told(0), 0);
        Check.due("of none", x.of(0, 0), -2);
        Check.due("one booked", Check.book(x, "book 2 at 7 for 1 once from 2000 1 1"), 0);
        Check.due("back to twelve", x.back(1), true);
        Check.due("twelve there are", x.told(0), 12);
        for (int i = 0; i < 12; i++) {
            Check.due("minute of " + i, x.of(i, 1), i);
            Check.due("dropped of " + i, x.of(i, 10), i == 11 ? 16 : 0);
            Check.due("moved of " + i, x.of(i, 11), i == 0 ? 16 : 0);
        }
        Check.due("a thirteenth", Check.book(x, DAILY), -1);
        Check.due("the last moved one is there", x.next(0, 15, 1), 25);
        Check.due("back to none again", x.back(0), true);
        Check.due("none there are still", x.told(0), 0);
    }

    /** What is changed behind an image is not changed in it, and what is changed behind back neither. */
    private static void imageStays() {
        Check.says("image: of all BOOKINGS; back: They are as in an IMAGE");
        BookIndex x = Texts.good(DAILY);
        x.drop(0, 12);
        x.move(0, 13, 5);
        x.image(0);
        for (int round = 0; round < 2; round++) {
            x.restore(0, 12);
            x.restore(0, 13);
            x.drop(0, 14);
            x.move(0, 15, 9);
            x.split(0, 20);
            Check.book(x, "book 3 at 7 for 1 once from 2000 1 1");
            x.cancel(0);
            Check.due("back", x.back(0), true);
            Check.due("one there is", x.told(0), 1);
            Check.due("its keys", x.keys(0, 0, 36524), 40);
            Check.due("its times", x.of(0, 9), 40);
            Check.due("dropped", x.of(0, 10), 1);
            Check.due("moved", x.of(0, 11), 1);
            Check.due("where it is moved to", x.next(0, 0, 0), 5);
            Check.due("14 is there", x.count(0, 14, 14), 1);
        }
        Check.due("12 was dropped", x.restore(0, 12), 1);
        Check.due("13 was moved", x.restore(0, 13), 2);
        x.image(1);
        x.back(0);
        Check.due("the one image", x.of(0, 10), 1);
        x.back(1);
        Check.due("the other image", x.of(0, 10), 0);
    }

    /** Bookings of every rule are as in an image, though others stood in their places in between. */
    private static void imageOfEachRule() {
        Check.says("back: They are as in an IMAGE (all that of tells)");
        String[] rules = {"once", "every 2 days", "every 2 weeks mon sat", "every 1 months on 5", "every 1 months end 5",
            "every 1 months nth 2 wed", "every 1 months last wed", "every 1 years"};
        String[] spans = {"", " times 9", " until 2010 6 7"};
        BookIndex x = new BookIndex();
        int[][] want = new int[rules.length][15];
        for (int b = 0; b < rules.length; b++) {
            Check.book(x, "book " + b + " at " + b + " for " + (b + 1) + " " + rules[b] + " from 2000 1 " + (b + 2) + spans[b % 3]);
            x.drop(b, x.of(b, 12));
            for (int what = 0; what <= 13; what++) {
                want[b][what] = x.of(b, what);
            }
            want[b][14] = x.next(b, 0, 0);
        }
        x.image(0);
        for (int b = 0; b < rules.length; b++) {
            x.cancel(0);
            Check.book(x, "book 7 at 99 for 99 every 9 days from 2050 1 1 times 99");
        }
        Check.due("back", x.back(0), true);
        for (int b = 0; b < rules.length; b++) {
            for (int what = 0; what <= 13; what++) {
                Check.due(rules[b] + ": of " + what, x.of(b, what), want[b][what]);
            }
            Check.due(rules[b] + ": next", x.next(b, 0, 0), want[b][14]);
            Check.due(rules[b] + ": keys", x.keys(b, want[b][12], want[b][13]), x.keys(b, 0, 36524));
        }
    }

    /** A split behind back goes by what the image holds. */
    private static void splitBehindBack() {
        Check.says("back, then SPLIT: how many KEYS are ahead of it, and how many from it on");
        BookIndex x = Texts.good(DAILY);
        x.split(0, 30);
        x.image(1);
        x.cancel(1);
        x.cancel(0);
        Check.book(x, "book 1 at 0 for 1 every 9 days from 2001 1 1 times 3");
        Check.book(x, "book 1 at 0 for 1 once from 2001 1 1");
        x.back(1);
        Check.due("the new one split again", x.split(1, 40), 2);
        Check.due("ten ahead", x.of(1, 9), 10);
        Check.due("ten from it on", x.of(2, 9), 10);
        Check.due("its first key", x.of(1, 12), 30);
        Check.due("the new one's first key", x.of(2, 12), 40);
        Check.due("the new one's last key", x.of(2, 13), 49);
        Check.due("the first one split again", x.split(0, 11), 3);
        Check.due("one ahead", x.of(0, 9), 1);
        Check.due("nineteen from it on", x.of(3, 9), 19);
    }

    private static void imageAndTape() {
        Check.says("back: BOOKINGS are as in an IMAGE (the TAPE is as it was)");
        BookIndex x = Texts.good(DAILY);
        x.image(0);
        Check.put(x, "book 3 at 7 for 1 once from 2000 1 1");
        Check.due("back", x.back(0), true);
        Check.due("bytes", x.told(1), 36);
        Check.due("images", x.told(3), 1);
        Check.due("book", x.book(), 1);
        Check.due("as it was told", x.of(1, 1), 7);
    }

    private static void told() {
        Check.says("told: What 0: BOOKINGS, 1: bytes on the TAPE, 2: ROOMS that have some, as bits, 3: IMAGES, as bits");
        BookIndex empty = Made.empty();
        BookIndex full = Made.full();
        int[] ofFull = {12, 168, 255, 3};
        for (int what = 0; what <= 3; what++) {
            Check.due("empty " + what, empty.told(what), 0);
            Check.due("full " + what, full.told(what), ofFull[what]);
        }
        BookIndex x = new BookIndex();
        int bits = 0;
        for (int room = 7; room >= 0; room--) {
            Check.book(x, "book " + room + " at 0 for 1 once from 2000 1 1");
            bits |= 1 << room;
            Check.due("rooms", x.told(2), bits);
        }
        Check.book(x, "book 7 at 0 for 1 once from 2000 1 1");
        Check.due("two of a room", x.told(2), 255);
        x.cancel(0);
        Check.due("one of them gone", x.told(2), 255);
        x.cancel(7);
        Check.due("both gone", x.told(2), 127);
        x.drop(0, 0);
        Check.due("a room of which all are dropped", x.told(2), 127);
        Check.says("told: NONE for another what");
        for (int what : Outside.whats(3)) {
            Check.due("told " + what, x.told(what), -1);
            Check.due("empty told " + what, empty.told(what), -1);
        }
    }

    public static void main(String[] args) {
        split();
        splitWithSixteen();
        periods();
        of();
        ofCounts();
        image();
        imageOfFull();
        imageStays();
        imageOfEachRule();
        splitBehindBack();
        imageAndTape();
        told();
        Check.close();
    }
}
