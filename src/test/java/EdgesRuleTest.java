import java.time.LocalDate;
import java.time.temporal.ChronoUnit;

/** Terms, part 1: days and weekdays, on which days a rule is on, which of these are keys, occurrences. */
public final class EdgesRuleTest {
    private static final String HEAD = Texts.HEAD;
    private static final String NO_MORE = "none";

    private static int dayOf(String date) {
        String[] parts = date.split(" ");
        LocalDate d = LocalDate.of(Integer.parseInt(parts[0]), Integer.parseInt(parts[1]), Integer.parseInt(parts[2]));
        return (int) ChronoUnit.DAYS.between(LocalDate.of(2000, 1, 1), d);
    }

    /** The booking's first keys are these dates; behind "none" there is no further one. */
    private static BookIndex keysAre(String text, String... dates) {
        BookIndex x = Texts.good(HEAD + text);
        int from = 0;
        int last = -1;
        for (String date : dates) {
            int want = date.equals(NO_MORE) ? -1 : dayOf(date);
            int got = from > 36524 ? -1 : x.key(0, from);
            Check.due(text + ": key from " + from + " on, " + date, got, want);
            if (want == -1) {
                Check.due(text + ": last key", x.of(0, 13), last);
                Check.due(text + ": how many keys", x.keys(0, 0, 36524), dates.length - 1);
                break;
            }
            last = want;
            from = want + 1;
        }
        Check.due(text + ": first key", x.of(0, 12), dates[0].equals(NO_MORE) ? -1 : dayOf(dates[0]));
        return x;
    }

    private static void days() {
        BookIndex x = new BookIndex();
        Check.says("DAYS 0 (Sat 1 Jan 2000) to 36524 (31 Dec 2099)");
        Check.due("1 Jan 2000", x.day(2000, 1, 1), 0);
        Check.due("its weekday", x.date(0, 3), 5);
        Check.due("31 Dec 2099", x.day(2099, 12, 31), 36524);
        Check.due("its weekday", x.date(36524, 3), 3);
        Check.due("a day ahead of the first", x.date(-1, 0), -1);
        Check.due("a day behind the last", x.date(36525, 0), -1);
        Check.says("a year that 4 divides has 29 Feb; 2000, too");
        for (int year = 2000; year <= 2099; year++) {
            int want = year % 4 == 0 ? x.day(year, 3, 1) - 1 : -1;
            Check.due("29 Feb " + year, x.day(year, 2, 29), want);
            Check.due("30 Feb " + year, x.day(year, 2, 30), -1);
        }
        Check.says("WEEKDAYS: 0 mon to 6 sun");
        for (int i = 0; i < 7; i++) {
            Check.due("weekday " + i, new BookIndex().date(2 + i, 3), i);
        }
    }

    private static void times() {
        Check.says("A DAY has MINUTES 0 to 1439; TIME: 1440 times the DAY and the MINUTE");
        BookIndex first = Texts.good("book 1 at 0 for 1 once from 2000 1 1");
        Check.due("the first time", first.next(0, 0, 0), 0);
        BookIndex last = Texts.good("book 1 at 1439 for 1 once from 2099 12 31");
        Check.due("the last time", last.next(0, 0, 0), 52595999);
        Check.due("the last time, asked there", last.next(0, 52595999, 0), 52595999);
        BookIndex some = Texts.good("book 1 at 1439 for 1 once from 2000 1 2");
        Check.due("a day's last minute", some.next(0, 0, 0), 2879);
        Check.due("it is of that day", some.count(0, 1, 1), 1);
        Check.due("it is not of the next", some.count(0, 2, 2), 0);
    }

    private static void once() {
        Check.says("once: START");
        keysAre("once from 2000 1 1", "2000 1 1", NO_MORE);
        keysAre("once from 2024 2 29", "2024 2 29", NO_MORE);
        keysAre("once from 2099 12 31", "2099 12 31", NO_MORE);
    }

    private static void everyDays() {
        Check.says("days: each N-th from START on");
        keysAre("every 1 days from 2024 2 28", "2024 2 28", "2024 2 29", "2024 3 1");
        keysAre("every 3 days from 2023 2 27", "2023 2 27", "2023 3 2", "2023 3 5");
        keysAre("every 1 days from 2099 12 30", "2099 12 30", "2099 12 31", NO_MORE);
        keysAre("every 1 days from 2099 12 31", "2099 12 31", NO_MORE);
        String last = LocalDate.of(2099, 12, 31).minusDays(999).toString().replace("-0", " ").replace('-', ' ');
        String behind = LocalDate.of(2099, 12, 31).minusDays(998).toString().replace("-0", " ").replace('-', ' ');
        keysAre("every 999 days from " + last, last, "2099 12 31", NO_MORE);
        keysAre("every 999 days from " + behind, behind, NO_MORE);
        BookIndex x = Texts.good(HEAD + "every 999 days from 2000 1 1");
        Check.due("all of 999 days", x.keys(0, 0, 36524), 37);
        Check.due("the last of 999 days", x.of(0, 13), 35964);
    }

    private static void everyWeeks() {
        Check.says("weeks: those WEEKDAYS in WEEKS .. from the WEEK of START on; a WEEK begins with mon");
        keysAre("every 2 weeks mon wed from 2000 1 5", "2000 1 5", "2000 1 17", "2000 1 19", "2000 1 31");
        keysAre("every 2 weeks mon from 2000 1 2", "2000 1 10", "2000 1 24");
        keysAre("every 2 weeks sun from 2000 1 3", "2000 1 9", "2000 1 23");
        keysAre("every 2 weeks sun from 2000 1 9", "2000 1 9", "2000 1 23");
        keysAre("every 2 weeks mon from 2000 1 9", "2000 1 17", "2000 1 31");
        keysAre("every 1 weeks sun mon from 2000 1 2", "2000 1 2", "2000 1 3", "2000 1 9", "2000 1 10");
        keysAre("every 1 weeks mon from 2000 1 1", "2000 1 3", "2000 1 10");
        keysAre("every 999 weeks sat sun mon from 2000 1 1", "2000 1 1", "2000 1 2", "2019 2 18", "2019 2 23", "2019 2 24");
        keysAre("every 1 weeks thu from 2099 12 24", "2099 12 24", "2099 12 31", NO_MORE);
        keysAre("every 2 weeks thu from 2099 12 24", "2099 12 24", NO_MORE);
        keysAre("every 1 weeks mon from 2099 12 28", "2099 12 28", NO_MORE);
        keysAre("every 1 weeks mon sun from 2099 12 20", "2099 12 20", "2099 12 21", "2099 12 27", "2099 12 28", NO_MORE);
        keysAre("every 1 weeks wed from 2099 12 31", NO_MORE);
        keysAre("every 1 weeks fri from 2099 12 26", NO_MORE);
    }

    private static void monthsOn() {
        Check.says("months: in months of which the number, from the month of START on, can be divided by N: on: that day");
        keysAre("every 1 months on 15 from 2001 1 15", "2001 1 15", "2001 2 15");
        keysAre("every 1 months on 15 from 2001 1 16", "2001 2 15", "2001 3 15");
        keysAre("every 2 months on 1 from 2001 1 15", "2001 3 1", "2001 5 1");
        keysAre("every 2 months on 31 from 2001 1 15", "2001 1 31", "2001 3 31", "2001 5 31", "2001 7 31", "2002 1 31");
        keysAre("every 13 months on 1 from 2000 12 1", "2000 12 1", "2002 1 1", "2003 2 1");
        keysAre("every 999 months on 1 from 2000 1 1", "2000 1 1", "2083 4 1", NO_MORE);
        keysAre("every 1 months on 31 from 2099 11 1", "2099 12 31", NO_MORE);
        Check.says("on: (no such day: none)");
        keysAre("every 1 months on 31 from 2001 1 31", "2001 1 31", "2001 3 31", "2001 5 31", "2001 7 31", "2001 8 31",
                "2001 10 31", "2001 12 31", "2002 1 31");
        keysAre("every 1 months on 30 from 2001 1 31", "2001 3 30", "2001 4 30");
        keysAre("every 1 months on 29 from 2003 2 1", "2003 3 29");
        keysAre("every 1 months on 29 from 2004 2 1", "2004 2 29", "2004 3 29");
        keysAre("every 12 months on 29 from 2001 2 1", "2004 2 29", "2008 2 29", "2012 2 29");
        keysAre("every 12 months on 30 from 2001 2 1", NO_MORE);
        keysAre("every 12 months on 31 from 2001 4 1", NO_MORE);
    }

    private static void monthsEnd() {
        Check.says("end: the NUMBER-th day from the end (1: the last)");
        keysAre("every 1 months end 1 from 2000 1 1", "2000 1 31", "2000 2 29", "2000 3 31", "2000 4 30");
        keysAre("every 1 months end 1 from 2001 1 31", "2001 1 31", "2001 2 28", "2001 3 31");
        keysAre("every 1 months end 2 from 2001 1 31", "2001 2 27", "2001 3 30");
        keysAre("every 1 months end 28 from 2001 1 1", "2001 1 4", "2001 2 1", "2001 3 4", "2001 4 3");
        keysAre("every 1 months end 28 from 2004 2 1", "2004 2 2", "2004 3 4");
        keysAre("every 1 months end 28 from 2001 2 2", "2001 3 4");
        keysAre("every 12 months end 1 from 2003 2 1", "2003 2 28", "2004 2 29", "2005 2 28");
        keysAre("every 1 months end 1 from 2099 12 1", "2099 12 31", NO_MORE);
        keysAre("every 1 months end 2 from 2099 12 31", NO_MORE);
    }

    private static void monthsNth() {
        Check.says("nth: the NUMBER-th such WEEKDAY");
        keysAre("every 1 months nth 1 sat from 2000 1 1", "2000 1 1", "2000 2 5");
        keysAre("every 1 months nth 1 fri from 2000 1 1", "2000 1 7", "2000 2 4");
        keysAre("every 1 months nth 1 sat from 2000 1 2", "2000 2 5", "2000 3 4");
        keysAre("every 1 months nth 4 fri from 2000 1 1", "2000 1 28", "2000 2 25");
        keysAre("every 1 months nth 4 tue from 2000 2 1", "2000 2 22", "2000 3 28");
        Check.says("nth: (no such one: none)");
        keysAre("every 1 months nth 5 sat from 2000 1 1", "2000 1 29", "2000 4 29", "2000 7 29");
        keysAre("every 1 months nth 5 tue from 2000 2 1", "2000 2 29", "2000 5 30");
        keysAre("every 12 months nth 5 mon from 2001 2 1", "2016 2 29", "2044 2 29", "2072 2 29", NO_MORE);
        keysAre("every 48 months nth 5 mon from 2001 2 1", NO_MORE);
        keysAre("every 1 months nth 5 thu from 2099 12 1", "2099 12 31", NO_MORE);
        keysAre("every 1 months nth 5 fri from 2099 12 1", NO_MORE);
    }

    private static void monthsLast() {
        Check.says("last: the last such one");
        keysAre("every 1 months last mon from 2000 1 1", "2000 1 31", "2000 2 28", "2000 3 27");
        keysAre("every 1 months last tue from 2000 2 1", "2000 2 29", "2000 3 28");
        keysAre("every 1 months last wed from 2000 2 1", "2000 2 23", "2000 3 29");
        keysAre("every 1 months last wed from 2001 2 1", "2001 2 28", "2001 3 28");
        keysAre("every 1 months last thu from 2001 2 1", "2001 2 22", "2001 3 29");
        keysAre("every 1 months last thu from 2001 2 23", "2001 3 29");
        keysAre("every 2 months last sun from 2000 1 31", "2000 3 26", "2000 5 28");
        keysAre("every 1 months last thu from 2099 12 1", "2099 12 31", NO_MORE);
        keysAre("every 1 months last fri from 2099 12 26", NO_MORE);
    }

    private static void everyYears() {
        Check.says("years: day and month of START in years likewise");
        keysAre("every 1 years from 2001 3 1", "2001 3 1", "2002 3 1", "2003 3 1");
        keysAre("every 99 years from 2000 2 28", "2000 2 28", "2099 2 28", NO_MORE);
        keysAre("every 100 years from 2000 2 28", "2000 2 28", NO_MORE);
        keysAre("every 999 years from 2000 1 1", "2000 1 1", NO_MORE);
        keysAre("every 1 years from 2098 12 31", "2098 12 31", "2099 12 31", NO_MORE);
        Check.says("years: (29 Feb: only where there is one)");
        keysAre("every 1 years from 2000 2 29", "2000 2 29", "2004 2 29", "2008 2 29");
        keysAre("every 2 years from 2000 2 29", "2000 2 29", "2004 2 29", "2008 2 29");
        keysAre("every 3 years from 2000 2 29", "2000 2 29", "2012 2 29", "2024 2 29");
        keysAre("every 20 years from 2004 2 29", "2004 2 29", "2024 2 29", "2044 2 29", "2064 2 29", "2084 2 29", NO_MORE);
        keysAre("every 99 years from 2000 2 29", "2000 2 29", NO_MORE);
        keysAre("every 1 years from 2096 2 29", "2096 2 29", NO_MORE);
    }

    private static void keysUntil() {
        Check.says("Its KEYS: .. not behind until");
        keysAre("every 2 days from 2000 1 1 until 2000 1 5", "2000 1 1", "2000 1 3", "2000 1 5", NO_MORE);
        keysAre("every 2 days from 2000 1 1 until 2000 1 4", "2000 1 1", "2000 1 3", NO_MORE);
        keysAre("every 2 days from 2000 1 1 until 2000 1 1", "2000 1 1", NO_MORE);
        keysAre("once from 2000 1 1 until 2099 12 31", "2000 1 1", NO_MORE);
        keysAre("every 2 weeks mon from 2000 1 2 until 2000 1 9", NO_MORE);
        keysAre("every 2 weeks mon from 2000 1 2 until 2000 1 10", "2000 1 10", NO_MORE);
        keysAre("every 3 weeks tue sun from 2000 1 5 until 2000 1 20", "2000 1 9", NO_MORE);
        keysAre("every 3 weeks tue sun from 2000 1 5 until 2000 1 24", "2000 1 9", NO_MORE);
        keysAre("every 3 weeks tue sun from 2000 1 5 until 2000 1 25", "2000 1 9", "2000 1 25", NO_MORE);
        keysAre("every 3 weeks tue sun from 2000 1 5 until 2000 1 29", "2000 1 9", "2000 1 25", NO_MORE);
        keysAre("every 1 weeks sat from 2000 1 1 until 2000 1 1", "2000 1 1", NO_MORE);
        keysAre("every 1 months on 31 from 2001 4 1 until 2001 5 30", NO_MORE);
        keysAre("every 1 months on 31 from 2001 4 1 until 2001 5 31", "2001 5 31", NO_MORE);
        keysAre("every 1 months end 1 from 2001 1 1 until 2001 2 27", "2001 1 31", NO_MORE);
        keysAre("every 1 months nth 5 sat from 2000 1 1 until 2000 4 28", "2000 1 29", NO_MORE);
        keysAre("every 1 months last mon from 2000 1 1 until 2000 1 31", "2000 1 31", NO_MORE);
        keysAre("every 1 years from 2001 3 1 until 2002 3 1", "2001 3 1", "2002 3 1", NO_MORE);
    }

    private static void keysTimes() {
        Check.says("Its KEYS: .. with times but the first so many");
        keysAre("every 2 days from 2000 1 1 times 1", "2000 1 1", NO_MORE);
        keysAre("every 2 days from 2000 1 1 times 2", "2000 1 1", "2000 1 3", NO_MORE);
        keysAre("once from 2000 1 1 times 999", "2000 1 1", NO_MORE);
        keysAre("every 1 months on 31 from 2001 1 31 times 2", "2001 1 31", "2001 3 31", NO_MORE);
        keysAre("every 2 weeks mon sun from 2000 1 2 times 3", "2000 1 2", "2000 1 10", "2000 1 16", NO_MORE);
        keysAre("every 1 years from 2000 2 29 times 2", "2000 2 29", "2004 2 29", NO_MORE);
        keysAre("every 1 days from 2099 12 30 times 999", "2099 12 30", "2099 12 31", NO_MORE);
        keysAre("every 12 months on 30 from 2001 2 1 times 999", NO_MORE);
        keysAre("every 2 weeks sun thu from 2099 12 13 times 999", "2099 12 13", "2099 12 24", "2099 12 27", NO_MORE);
        keysAre("every 1 months on 1 from 2099 11 2 times 999", "2099 12 1", NO_MORE);
        keysAre("every 1 months on 1 from 2099 12 2 times 999", NO_MORE);
        keysAre("every 1 months end 1 from 2099 11 1 times 999", "2099 11 30", "2099 12 31", NO_MORE);
        keysAre("every 1 months nth 1 fri from 2099 11 1 times 999", "2099 11 6", "2099 12 4", NO_MORE);
        keysAre("every 1 months last fri from 2099 11 1 times 999", "2099 11 27", "2099 12 25", NO_MORE);
        keysAre("every 1 years from 2098 1 1 times 999", "2098 1 1", "2099 1 1", NO_MORE);
        BookIndex x = Texts.good(HEAD + "every 1 days from 2000 1 1 times 999");
        Check.due("999 of them", x.keys(0, 0, 36524), 999);
        Check.due("the 999th", x.key(0, 998), 998);
        Check.due("no thousandth", x.key(0, 999), -1);
        Check.says("Of each KEY there is an OCCURRENCE, if it is not DROPPED");
        x.drop(0, 0);
        x.drop(0, 998);
        Check.due("two fewer", x.count(0, 0, 36524), 997);
        Check.due("no further one in their place", x.next(0, 1440 * 998, 1), -1);
        Check.due("as many keys", x.keys(0, 0, 36524), 999);
        Check.due("the last key", x.of(0, 13), 998);
        Check.due("the first key", x.of(0, 12), 0);
    }

    private static void lengths() {
        Check.says("LENGTH: it may go on over some DAYS");
        BookIndex one = Texts.good("book 1 at 0 for 1 once from 2000 1 11");
        Check.due("one minute", one.busy(1, 10), 1);
        Check.due("not the next", one.on(1, 14401, 14402), 0);
        BookIndex three = Texts.good("book 1 at 0 for 4320 once from 2000 1 11");
        int[] whole = {0, 1440, 1440, 1440, 0};
        BookIndex four = Texts.good("book 1 at 1439 for 4320 once from 2000 1 11");
        int[] late = {0, 1, 1440, 1440, 1439};
        for (int i = 0; i < 5; i++) {
            Check.due("three days, " + i, three.busy(1, 9 + i), whole[i]);
            Check.due("parts of four days, " + i, four.busy(1, 9 + i), late[i]);
        }
        Check.due("behind them", four.busy(1, 14), 0);
        Check.due("its last minute", four.on(1, 14400 + 1439 + 4319, 14400 + 1439 + 4320), 1);
        Check.due("its end", four.on(1, 14400 + 1439 + 4320, 14400 + 1439 + 4321), 0);
        Check.due("it begins on one day alone", four.count(0, 11, 36524), 0);
    }

    private static void beyondTheLastDay() {
        Check.says("(One may go on beyond the last DAY.)");
        BookIndex x = Texts.good("book 1 at 1438 for 4320 once from 2099 12 31");
        int begin = 52595998;
        Check.due("its time", x.next(0, 0, 0), begin);
        Check.due("it is on", x.on(1, begin, begin + 1), 1);
        Check.due("which one is on", Check.onAt(x, 1, begin, begin + 1, 0, 1), 36524);
        Check.due("it begins on the last day", x.count(0, 36524, 36524), 1);
        Check.due("minutes of the last day", x.busy(1, 36524), 2);
        Check.due("the last day is the busiest", x.busiest(1, 36465, 36524), 36524);
        Check.due("free ahead of it", x.free(1, begin - 5, 5), begin - 5);
        Check.due("not free behind it", x.free(1, begin, 1), -1);
        Check.book(x, "book 1 at 1439 for 1 once from 2099 12 31");
        Check.due("a clash in the last minute", x.clash(0, 1, 0), 52595999);
        Check.due("a clash in the last minute, asked there", x.clash(1, 0, 52595999), 52595999);
        Check.due("counted", x.clashes(0, 1, 36524, 36524), 1);
        Check.due("of the room", x.roomClash(1, 52595999, 0), 52595999);
        Check.due("moved to the last minute", x.move(0, 36524, 52595999), true);
        Check.due("a clash at once", x.clash(0, 1, 0), 52595999);
        Check.due("one minute of the last day", x.busy(1, 36524), 1);
    }

    private static void order() {
        Check.says("OCCURRENCES are in order by TIMES, of like ones by KEYS");
        BookIndex x = Texts.good("book 1 at 30 for 1 every 1 days from 2000 1 1 times 9");
        int time = 1440 * 4 + 30;
        x.move(0, 8, time);
        x.move(0, 2, time);
        x.move(0, 0, time - 1);
        x.move(0, 7, time + 1);
        int[] keys = {1, 3, 0, 2, 4, 8, 7, 5, 6};
        Check.due("all of them", x.on(1, 0, 1440 * 9), 9);
        for (int i = 0; i < keys.length; i++) {
            Check.due(i + "-th of them", Check.onAt(x, 1, 0, 1440 * 9, i, 1), keys[i]);
        }
        Check.due("first from the like time on", x.next(0, time, 1), 2);
        Check.due("first from a minute ahead on", x.next(0, time - 1, 1), 0);
        Check.due("first from a minute behind on", x.next(0, time + 1, 1), 7);
        Check.due("last ahead of the like time", x.ahead(0, time, 1), 0);
        Check.due("last ahead of a minute behind", x.ahead(0, time + 1, 1), 8);
    }

    public static void main(String[] args) {
        days();
        times();
        once();
        everyDays();
        everyWeeks();
        monthsOn();
        monthsEnd();
        monthsNth();
        monthsLast();
        everyYears();
        keysUntil();
        keysTimes();
        lengths();
        beyondTheLastDay();
        order();
        Check.close();
    }
}
