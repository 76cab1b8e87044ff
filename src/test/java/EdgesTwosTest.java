/** Terms, part 2: what a clash is, what a split leaves, periods. */
public final class EdgesTwosTest {
    private static final String HEAD = Texts.HEAD;

    /** Two bookings of one occurrence each, of these begins and lengths on one day, clash then or not. */
    private static void clashOf(int begin, int length, int otherBegin, int otherLength, boolean clash) {
        BookIndex x = new BookIndex();
        Check.book(x, "book 1 at " + begin + " for " + length + " once from 2000 1 11");
        Check.book(x, "book 2 at " + otherBegin + " for " + otherLength + " once from 2000 1 11");
        int want = clash ? 14400 + Math.max(begin, otherBegin) : -1;
        String name = begin + " for " + length + " and " + otherBegin + " for " + otherLength;
        Check.due(name, x.clash(0, 1, 0), want);
        Check.due(name + ", the other way", x.clash(1, 0, 0), want);
        Check.due(name + ", counted", x.clashes(0, 1, 10, 10), clash ? 1 : 0);
        Check.due(name + ", counted the other way", x.clashes(1, 0, 10, 10), clash ? 1 : 0);
        Check.due(name + ", the day ahead", x.clashes(0, 1, 9, 9), 0);
        Check.due(name + ", the day behind", x.clashes(0, 1, 11, 11), 0);
    }

    private static void clashes() {
        Check.says("Two OCCURRENCES CLASH, if one begins ahead of the other one's end, and that ahead of its own");
        clashOf(100, 50, 150, 50, false);
        clashOf(100, 51, 150, 50, true);
        clashOf(100, 50, 149, 50, true);
        clashOf(100, 50, 50, 50, false);
        clashOf(100, 50, 50, 51, true);
        clashOf(100, 50, 100, 50, true);
        clashOf(100, 50, 110, 10, true);
        clashOf(100, 50, 100, 1, true);
        clashOf(100, 50, 149, 1, true);
        clashOf(100, 50, 150, 1, false);
        clashOf(100, 50, 99, 1, false);
        clashOf(0, 1, 0, 1, true);
        clashOf(0, 1, 1, 1, false);
        clashOf(0, 4320, 1439, 4320, true);
        clashOf(1439, 1, 0, 1439, false);
        clashOf(1439, 1, 0, 1440, true);
    }

    private static void clashesOverDays() {
        Check.says("CLASH of two BOOKINGS: the greater TIME of the two");
        BookIndex x = new BookIndex();
        Check.book(x, "book 1 at 1439 for 4320 once from 2000 1 11");
        Check.book(x, "book 2 at 1438 for 1 once from 2000 1 14");
        Check.due("in its last minute, three days behind", x.clash(0, 1, 0), 1440 * 13 + 1438);
        Check.due("on the day of the greater time", x.clashes(0, 1, 13, 13), 1);
        Check.due("not on the day of the less", x.clashes(0, 1, 10, 12), 0);
        x.move(1, 13, 1440 * 13 + 1439);
        Check.due("at its end", x.clash(0, 1, 0), -1);
    }

    private static void whateverRooms() {
        Check.says("CLASH of two BOOKINGS (whatever ROOMS; not of one and itself)");
        BookIndex x = new BookIndex();
        Check.book(x, "book 1 at 0 for 4320 every 1 days from 2000 1 1");
        Check.due("one that is on three times at once", x.clash(0, 0, 0), -1);
        Check.due("of its room", x.roomClash(1, 0, 0), -1);
        Check.book(x, "book 2 at 0 for 4320 every 1 days from 2000 1 1");
        Check.due("of two rooms", x.clash(0, 1, 0), 0);
        Check.due("of neither room", x.roomClash(1, 0, 0), -1);
        Check.due("nor of the other", x.roomClash(2, 0, 0), -1);
        Check.book(x, "book 2 at 0 for 1 every 1 days from 2000 1 1");
        Check.due("of the room of two", x.roomClash(2, 0, 0), 0);
    }

    /** All that is begun by a booking and the ones split from it, day by day. */
    private static int begun(BookIndex x, int day) {
        int begun = 0;
        for (int b = 0; b < x.told(0); b++) {
            begun += x.count(b, day, day);
        }
        return begun;
    }

    private static BookIndex changed(String span) {
        BookIndex x = new BookIndex();
        Check.book(x, "book 5 at 7 for 9 every 2 days from 2000 1 2" + span);
        x.drop(0, 9);
        x.drop(0, 21);
        x.move(0, 11, 1440 * 30 + 5);
        x.move(0, 23, 1440 * 2 + 5);
        x.move(0, 19, 1440 * 19 + 5);
        return x;
    }

    private static void splitKeys(String span) {
        Check.says("SPLIT at a DAY: the BOOKING has KEYS ahead of it alone, a new one (at the end) those from it on");
        BookIndex x = changed(span);
        Check.book(x, "book 6 at 0 for 1 once from 2000 1 1");
        Check.due("split at a key", x.split(0, 19), 2);
        Check.due("three there are", x.told(0), 3);
        Check.due("the other one is as it was", x.of(1, 0), 6);
        Check.due("last key", x.of(0, 13), 17);
        Check.due("first key of the new one", x.of(2, 12), 19);
        Check.due("no key from it on", x.key(0, 18), -1);
        Check.due("no key ahead of it", x.keys(2, 0, 18), 0);
        Check.says("Its KEYS (of the new one of a SPLIT: from the DAY of that on)");
        Check.due("none ahead of its first", x.ahead(2, 1440 * 2 + 5, 1), -1);
        Check.due("it has none on a day ahead", x.count(2, 3, 18), 0);
        Check.due("a key ahead is not dropped", x.drop(2, 17), false);
        Check.due("nor moved", x.move(2, 17, 5), false);
        Check.due("a key from it on is not dropped of the first", x.drop(0, 19), false);
        Check.says("SPLIT at a DAY: the BOOKING has KEYS ahead of it alone, a new one (at the end) those from it on");
        BookIndex y = changed(span);
        Check.due("split off the keys", y.split(0, 18), 1);
        Check.due("last key then", y.of(0, 13), 17);
        Check.due("first key of the new one then", y.of(1, 12), 19);
    }

    private static void splitChanges(String span) {
        Check.says("SPLIT: with all that was DROPPED, MOVED of these; together they have the same OCCURRENCES");
        BookIndex x = changed(span);
        int[] want = new int[40];
        for (int day = 0; day < 40; day++) {
            want[day] = begun(x, day);
        }
        Check.due("split", x.split(0, 19), 1);
        Check.due("dropped of the first", x.of(0, 10), 1);
        Check.due("moved of the first", x.of(0, 11), 1);
        Check.due("dropped of the new one", x.of(1, 10), 1);
        Check.due("moved of the new one", x.of(1, 11), 2);
        for (int day = 0; day < 40; day++) {
            Check.due("begun on " + day, begun(x, day), want[day]);
        }
        Check.due("moved behind the day, yet of the first", x.ahead(0, 52595999, 1), 11);
        Check.due("moved ahead of the day, yet of the new one", x.next(1, 0, 1), 23);
        Check.due("of the first it is no key", x.restore(0, 23), -1);
        Check.due("of the new one it is none", x.restore(1, 11), -1);
        Check.due("restored", x.restore(1, 23), 2);
        Check.due("restored, a dropped one", x.restore(0, 9), 1);
    }

    private static void splitTells() {
        Check.says("SPLIT: ROOM, MINUTE, LENGTH, RULE, START of the RULE as they were");
        String[] rules = {"every 2 days", "every 2 weeks mon sat", "every 1 months on 5", "every 1 months end 5",
            "every 1 months nth 5 wed", "every 1 months last wed", "every 1 years"};
        for (String rule : rules) {
            BookIndex x = Texts.good("book 5 at 7 for 9 " + rule + " from 2000 1 2");
            int[] was = new int[8];
            for (int what = 0; what < 8; what++) {
                was[what] = x.of(0, what);
            }
            Check.due(rule + ": split", x.split(0, 20000), 1);
            for (int what = 0; what < 8; what++) {
                Check.due(rule + ": of " + what, x.of(0, what), was[what]);
                Check.due(rule + ": of the new one " + what, x.of(1, what), was[what]);
            }
        }
        Check.says("SPLIT: the RULE goes on from its START");
        BookIndex x = Texts.good(HEAD + "every 3 months on 31 from 2001 1 15");
        x.split(0, x.day(2001, 2, 20));
        Check.due("the next key is that of the rule", x.of(1, 12), x.day(2001, 7, 31));
        BookIndex y = Texts.good(HEAD + "every 10 days from 2000 1 1");
        y.split(0, 15);
        Check.due("the next tenth day", y.of(1, 12), 20);
    }

    /** Without changes, so that only the rule tells what is ahead. */
    private static void aheadOfTheNewOne() {
        Check.says("Its KEYS (of the new one of a SPLIT: from the DAY of that on)");
        String[] rules = {"every 2 days", "every 1 weeks mon sat", "every 1 months on 5", "every 1 months end 5",
            "every 1 months nth 2 wed", "every 1 months last wed", "every 1 years"};
        for (String rule : rules) {
            BookIndex x = Texts.good("book 5 at 7 for 9 " + rule + " from 2000 1 2");
            Check.due(rule + ": split", x.split(0, 20000), 1);
            int first = x.of(1, 12);
            Check.due(rule + ": not ahead of the day", first >= 20000, true);
            Check.due(rule + ": none ahead of its first", x.ahead(1, 1440 * first + 7, 0), -1);
            Check.due(rule + ": its first", x.ahead(1, 1440 * first + 8, 1), first);
            Check.due(rule + ": none behind the last of the other", x.next(0, 1440 * 20000, 0), -1);
            Check.due(rule + ": the last of the other", x.ahead(0, 52595999, 1), x.of(0, 13));
            Check.due(rule + ": no key of both", x.keys(0, 20000, 36524) + x.keys(1, 0, 19999), 0);
        }
    }

    private static void splitTimes() {
        Check.says("SPLIT: with times: how many KEYS are ahead of it, and how many from it on");
        BookIndex x = Texts.good(HEAD + "every 2 days from 2000 1 1 times 10");
        x.drop(0, 2);
        x.drop(0, 16);
        Check.due("split", x.split(0, 5), 1);
        Check.due("three keys, one dropped", x.of(0, 9), 3);
        Check.due("seven keys", x.of(1, 9), 7);
        Check.due("no until", x.of(0, 8), -1);
        Check.due("no until of the new one", x.of(1, 8), -1);
        Check.due("split at the last key", x.split(1, 18), 2);
        Check.due("six are left", x.of(1, 9), 6);
        Check.due("one", x.of(2, 9), 1);
        Check.due("its last key", x.of(2, 13), 18);
        Check.due("split behind the first key", x.split(0, 1), 3);
        Check.due("one alone", x.of(0, 9), 1);
        Check.due("and two", x.of(3, 9), 2);
    }

    private static void splitUntil() {
        Check.says("SPLIT: else until: the DAY ahead of it, and as it was");
        BookIndex x = Texts.good(HEAD + "every 2 days from 2000 1 1 until 2000 1 31");
        Check.due("split", x.split(0, 7), 1);
        Check.due("the day ahead of it", x.of(0, 8), 6);
        Check.due("as it was", x.of(1, 8), 30);
        Check.due("no times", x.of(0, 9), -1);
        Check.due("no times of the new one", x.of(1, 9), -1);
        BookIndex y = Texts.good(HEAD + "every 2 days from 2000 1 1");
        Check.due("split without until", y.split(0, 36524), 1);
        Check.due("the day ahead of the last one", y.of(0, 8), 36523);
        Check.due("still none", y.of(1, 8), -1);
        Check.due("its last key is the last day", y.of(1, 12), 36524);
        BookIndex z = Texts.good(HEAD + "every 2 days from 2000 1 1");
        Check.due("split at day 1", z.split(0, 1), 1);
        Check.due("until day 0", z.of(0, 8), 0);
        Check.due("its one key", z.keys(0, 0, 36524), 1);
    }

    private static void splitBothHaveKeys() {
        Check.says("SPLIT: Both must have a KEY");
        String[] spans = {" until 2000 2 20", " times 5"};
        for (String span : spans) {
            BookIndex x = Texts.good(HEAD + "every 10 days from 2000 1 11" + span);
            Check.due("at 0" + span, x.split(0, 0), -1);
            Check.due("at its first key" + span, x.split(0, 10), -1);
            Check.due("behind its last key" + span, x.split(0, 51), -1);
            Check.due("at the last day" + span, x.split(0, 36524), -1);
            Check.due("none is new" + span, x.told(0), 1);
            x.drop(0, 10);
            x.drop(0, 50);
            Check.due("at its last key, a dropped one" + span, x.split(0, 50), 1);
            Check.due("behind its first key, a dropped one" + span, x.split(0, 11), 2);
            Check.due("of one key, at it" + span, x.split(0, 10), -1);
            Check.due("of one key, behind it" + span, x.split(0, 11), -1);
        }
        BookIndex none = Texts.good(HEAD + "every 12 months on 30 from 2001 2 1");
        Check.due("of no key", none.split(0, 20000), -1);
        BookIndex once = Texts.good(HEAD + "once from 2000 1 11");
        Check.due("once, ahead", once.split(0, 9), -1);
        Check.due("once, at it", once.split(0, 10), -1);
        Check.due("once, behind", once.split(0, 11), -1);
    }

    private static void periodIs(String rule, long want) {
        Check.due(rule, Texts.good(HEAD + rule + " from 2000 1 1").period(0), want);
    }

    private static void periods() {
        Check.says("PERIOD: once 0; days N, weeks 7 * N");
        periodIs("once", 0);
        periodIs("every 1 days", 1);
        periodIs("every 999 days", 999);
        periodIs("every 1 weeks mon", 7);
        periodIs("every 1 weeks mon tue wed thu fri sat sun", 7);
        periodIs("every 999 weeks mon", 6993);
        Check.says("PERIOD: months: 146097 times (the least common multiple of N and 4800, by 4800)");
        for (String kind : new String[] {"on 1", "end 28", "nth 5 mon", "last sun"}) {
            periodIs("every 1 months " + kind, 146097);
            periodIs("every 64 months " + kind, 146097);
            periodIs("every 128 months " + kind, 146097 * 2);
            periodIs("every 75 months " + kind, 146097);
            periodIs("every 7 months " + kind, 146097 * 7);
            periodIs("every 9 months " + kind, 146097 * 3);
            periodIs("every 125 months " + kind, 146097 * 5);
            periodIs("every 960 months " + kind, 146097);
            periodIs("every 997 months " + kind, 146097 * 997);
            periodIs("every 999 months " + kind, 146097 * 333);
        }
        Check.says("PERIOD: years likewise of 12 * N");
        periodIs("every 1 years", 146097);
        periodIs("every 16 years", 146097);
        periodIs("every 32 years", 146097 * 2);
        periodIs("every 400 years", 146097);
        periodIs("every 800 years", 146097 * 2);
        periodIs("every 3 years", 146097 * 3);
        periodIs("every 999 years", 146097 * 999);
    }

    private static void periodsAsTold() {
        Check.says("PERIOD of a BOOKING in DAYS: .. for ever, as told here");
        Check.due("until does not count", Texts.good(HEAD + "every 5 days from 2000 1 1 until 2000 1 1").period(0), 5);
        Check.due("nor times", Texts.good(HEAD + "every 5 days from 2000 1 1 times 1").period(0), 5);
        Check.due("nor the century's end", Texts.good(HEAD + "every 999 years from 2099 12 31").period(0), 145950903);
        Check.due("nor that there is no key", Texts.good(HEAD + "every 12 months on 31 from 2001 4 1").period(0), 146097);
        BookIndex x = Texts.good(HEAD + "every 5 days from 2000 1 1");
        x.drop(0, 5);
        x.move(0, 10, 7);
        Check.due("nor what is dropped or moved", x.period(0), 5);
    }

    private static void ofTwo(String rule, String other, long want) {
        BookIndex x = new BookIndex();
        Check.book(x, HEAD + rule + " from 2000 1 1");
        Check.book(x, HEAD + other + " from 2000 1 1");
        Check.due(rule + " and " + other, x.periodOf(0, 1), want);
        Check.due(other + " and " + rule, x.periodOf(1, 0), want);
    }

    private static void periodsOfTwo() {
        Check.says("PERIOD of two: the least common multiple");
        ofTwo("every 4 days", "every 6 days", 12);
        ofTwo("every 1 days", "every 999 days", 999);
        ofTwo("every 999 days", "every 998 days", 999 * 998);
        ofTwo("every 14 days", "every 2 weeks mon", 14);
        ofTwo("every 1 weeks sun", "every 1 years", 146097);
        ofTwo("every 773 days", "every 1 years", 146097);
        ofTwo("every 998 days", "every 1 years", 146097 * 998);
        ofTwo("every 6 months on 1", "every 7 years", 146097 * 7);
        Check.says("PERIOD of two (0, if one of them is 0)");
        ofTwo("once", "every 4 days", 0);
        ofTwo("once", "every 999 years", 0);
        ofTwo("once", "once", 0);
        Check.says("PERIOD of two: -2: it is no int");
        ofTwo("every 207 years", "every 71 years", 2147187609);
        ofTwo("every 147 years", "every 100 days", -2);
        ofTwo("every 997 years", "every 991 years", -2);
        ofTwo("every 999 weeks mon", "every 997 years", -2);
    }

    public static void main(String[] args) {
        clashes();
        clashesOverDays();
        whateverRooms();
        splitKeys("");
        splitKeys(" times 100");
        splitKeys(" until 2001 1 1");
        splitChanges("");
        splitChanges(" times 100");
        splitChanges(" until 2001 1 1");
        splitTells();
        aheadOfTheNewOne();
        splitTimes();
        splitUntil();
        splitBothHaveKeys();
        periods();
        periodsAsTold();
        periodsOfTwo();
        Check.close();
    }
}
