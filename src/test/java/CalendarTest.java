import java.time.LocalDate;

/** Promises 6 and 7: day and date, every day beside the library's calendar. */
public final class CalendarTest {
    private static void everyDay() {
        BookIndex x = new BookIndex();
        LocalDate d = LocalDate.of(2000, 1, 1);
        for (int day = 0; day <= 36524; day++) {
            if (day % 64 == 0) {
                // An object is used for at most 512 calls.
                x = new BookIndex();
            }
            Check.due("day " + d, x.day(d.getYear(), d.getMonthValue(), d.getDayOfMonth()), day);
            Check.due("year of " + day, x.date(day, 0), d.getYear());
            Check.due("month of " + day, x.date(day, 1), d.getMonthValue());
            Check.due("day of " + day, x.date(day, 2), d.getDayOfMonth());
            Check.due("weekday of " + day, x.date(day, 3), d.getDayOfWeek().getValue() - 1);
            Check.due("days of month of " + day, x.date(day, 4), d.lengthOfMonth());
            d = d.plusDays(1);
        }
        Check.due("the last day is told", d.getYear(), 2100);
    }

    private static void noSuchDate(int year, int month, int day) {
        Check.due("day " + year + " " + month + " " + day, new BookIndex().day(year, month, day), -1);
    }

    private static void wrongDates() {
        noSuchDate(1999, 12, 31);
        noSuchDate(2100, 1, 1);
        noSuchDate(2000, 0, 1);
        noSuchDate(2000, 13, 1);
        noSuchDate(2000, 1, 0);
        noSuchDate(2000, 1, 32);
        noSuchDate(2000, 2, 30);
        noSuchDate(2001, 2, 29);
        noSuchDate(2000, 4, 31);
        noSuchDate(Integer.MIN_VALUE, 1, 1);
        noSuchDate(Integer.MAX_VALUE, 1, 1);
        noSuchDate(2000, Integer.MIN_VALUE, 1);
        noSuchDate(2000, Integer.MAX_VALUE, 1);
        noSuchDate(2000, 1, Integer.MIN_VALUE);
        noSuchDate(2000, 1, Integer.MAX_VALUE);
    }

    private static void wrongDays() {
        BookIndex x = new BookIndex();
        for (int what = 0; what <= 4; what++) {
            Check.due("date -1 " + what, x.date(-1, what), -1);
            Check.due("date 36525 " + what, x.date(36525, what), -1);
            Check.due("date least " + what, x.date(Integer.MIN_VALUE, what), -1);
            Check.due("date most " + what, x.date(Integer.MAX_VALUE, what), -1);
        }
        Check.due("date 0 -1", x.date(0, -1), -1);
        Check.due("date 0 5", x.date(0, 5), -1);
    }

    public static void main(String[] args) {
        everyDay();
        wrongDates();
        wrongDays();
        Check.close();
    }
}
