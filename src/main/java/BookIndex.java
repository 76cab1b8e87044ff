import java.util.NoSuchElementException;

/** Recurring bookings of rooms, asked about without unrolling their rules. */
public final class BookIndex {
    public static final int NONE = -1;

    private static final int OTHERS = -2;
    private static final int LAST_DAY = 36524;
    private static final int MINUTES = 1440;
    private static final int LAST_TIME = LAST_DAY * MINUTES + MINUTES - 1;
    private static final int LAST_ROOM = 7;
    private static final int LONGEST = 4320;
    private static final int SPAN_DAYS = 60;
    private static final int CLASH_DAYS = 400;
    private static final int MOST_BOOKINGS = 12;
    private static final int MOST_CHANGES = 16;
    private static final int IMAGES = 2;
    private static final int FEED_BYTES = 24;
    private static final int TAPE_BYTES = 168;
    private static final int TEXT_BYTES = 160;
    /** No two KEYS further apart can clash: the longest OCCURRENCE has three days. */
    private static final int REACH = 4;
    private static final long LARGEST_INT = 2147483647L;
    /** Behind every TIME and every end of an OCCURRENCE. */
    private static final int NEVER = 2147483647;

    private static final int ONCE = 0;
    private static final int DAYS = 1;
    private static final int WEEKS = 2;
    private static final int MONTHS_ON = 3;
    private static final int MONTHS_END = 4;
    private static final int MONTHS_NTH = 5;
    private static final int MONTHS_LAST = 6;
    private static final int YEARS = 7;

    private final char[] tape = new char[TAPE_BYTES];
    private int tapeSize = 0;
    private final Shelf shelf = new Shelf();
    private final Shelf[] images = new Shelf[IMAGES];

    public BookIndex() {
    }

    public int feed(long a, long b, long c) {
        if (tapeSize + FEED_BYTES > TAPE_BYTES) {
            return NONE;
        }
        putBytes(a);
        putBytes(b);
        putBytes(c);
        return tapeSize;
    }

    public int end(int n) {
        if (n < 0 || n > tapeSize) {
            return NONE;
        }
        tapeSize = n;
        return n;
    }

    public int book() {
        int size = tapeSize;
        tapeSize = 0;
        if (size > TEXT_BYTES || shelf.isFull()) {
            return NONE;
        }
        Reader reader = new Reader(tape, size);
        int fault = reader.read(shelf.spare());
        if (fault != 0) {
            return OTHERS - fault;
        }
        return shelf.keepSpare();
    }

    public boolean cancel(int booking) {
        if (!shelf.has(booking)) {
            return false;
        }
        shelf.remove(booking);
        return true;
    }

    public int day(int year, int month, int day) {
        if (day < 1 || day > Calendar.daysOfMonth(year, month)) {
            return NONE;
        }
        return Calendar.monthStart(Calendar.monthNumber(year, month)) + day - 1;
    }

    public int date(int day, int what) {
        if (!isDay(day)) {
            return NONE;
        }
        int month = Calendar.monthOf(day);
        switch (what) {
            case 0:
                return 2000 + month / 12;
            case 1:
                return month % 12 + 1;
            case 2:
                return day - Calendar.monthStart(month) + 1;
            case 3:
                return Calendar.weekdayOf(day);
            case 4:
                return Calendar.monthStart(month + 1) - Calendar.monthStart(month);
            default:
                return NONE;
        }
    }

    public int key(int booking, int day) {
        if (!shelf.has(booking) || !isDay(day)) {
            return NONE;
        }
        return shelf.at(booking).keyFrom(day);
    }

    public int keys(int booking, int from, int to) {
        if (!shelf.has(booking) || !areDays(from, to, LAST_DAY + 1)) {
            return NONE;
        }
        return shelf.at(booking).keysIn(from, to);
    }

    public boolean drop(int booking, int key) {
        if (!shelf.has(booking) || !shelf.at(booking).isKey(key)) {
            return false;
        }
        Booking b = shelf.at(booking);
        return !b.isDropped(key) && b.change(key, NONE);
    }

    public boolean move(int booking, int key, int time) {
        if (!shelf.has(booking) || !shelf.at(booking).isKey(key) || !isTime(time)) {
            return false;
        }
        return shelf.at(booking).change(key, time);
    }

    public int restore(int booking, int key) {
        if (!shelf.has(booking) || !shelf.at(booking).isKey(key)) {
            return NONE;
        }
        return shelf.at(booking).undoChange(key);
    }

    public int next(int booking, int time, int what) {
        if (!shelf.has(booking) || !isTime(time)) {
            return NONE;
        }
        Booking b = shelf.at(booking);
        b.seek(time, 0);
        return b.found(what);
    }

    public int ahead(int booking, int time, int what) {
        if (!shelf.has(booking) || !isTime(time)) {
            return NONE;
        }
        Booking b = shelf.at(booking);
        b.seekAhead(time);
        return b.found(what);
    }

    public int count(int booking, int from, int to) {
        if (!shelf.has(booking) || !areDays(from, to, LAST_DAY + 1)) {
            return NONE;
        }
        return shelf.at(booking).beginsIn(from * MINUTES, to * MINUTES + MINUTES - 1);
    }

    public int on(int room, int from, int to) {
        return countOn(room, from, to);
    }

    public int onAt(int room, int from, int to, int i, int what) throws NoSuchElementException {
        if (i < 0 || i >= countOn(room, from, to) || what < 0 || what > 2) {
            throw new NoSuchElementException("no such occurrence");
        }
        int booking = walkOn(room, from, i);
        if (!shelf.has(booking)) {
            throw new NoSuchElementException("no such occurrence");
        }
        if (what == 0) {
            return booking;
        }
        Booking b = shelf.at(booking);
        return what == 1 ? b.foundKey : b.foundTime;
    }

    public int clash(int one, int other, int time) {
        if (!areTwo(one, other) || !isTime(time)) {
            return NONE;
        }
        Booking a = shelf.at(one);
        Booking b = shelf.at(other);
        int first = movedClash(a, b, time, NEVER);
        first = ruledClash(a, b, time, first);
        return first == NEVER ? NONE : first;
    }

    public int clashes(int one, int other, int from, int to) {
        if (!areTwo(one, other) || !areDays(from, to, CLASH_DAYS)) {
            return NONE;
        }
        Booking a = shelf.at(one);
        Booking b = shelf.at(other);
        int first = from * MINUTES;
        int last = to * MINUTES + MINUTES - 1;
        // Like TIMES are counted from one side alone.
        return countMet(a, b, first, last, 0) + countMet(b, a, first, last, 1);
    }

    public int roomClash(int room, int time, int what) {
        if (!isRoom(room) || !isTime(time) || what < 0 || what > 2) {
            return NONE;
        }
        int first = NEVER;
        int one = NONE;
        int other = NONE;
        for (int i = 0; i < shelf.size; i++) {
            for (int j = i + 1; j < shelf.size; j++) {
                if (shelf.isOf(i, room) && shelf.isOf(j, room)) {
                    int found = movedClash(shelf.at(i), shelf.at(j), time, first);
                    found = ruledClash(shelf.at(i), shelf.at(j), time, found);
                    if (found < first) {
                        first = found;
                        one = i;
                        other = j;
                    }
                }
            }
        }
        if (first == NEVER || what == 1) {
            return one;
        }
        return what == 0 ? first : other;
    }

    public int free(int room, int time, int minutes) {
        if (!isRoom(room) || !isTime(time) || minutes < 1 || minutes > LONGEST) {
            return NONE;
        }
        int last = Math.min(time + SPAN_DAYS * MINUTES, LAST_TIME);
        int at = time;
        for (int i = 0; i <= SPAN_DAYS * MINUTES && at <= last; i++) {
            int till = takenTill(room, at, minutes);
            if (till <= at) {
                return at;
            }
            at = till;
        }
        return NONE;
    }

    public int busy(int room, int day) {
        if (!isRoom(room) || !isDay(day)) {
            return NONE;
        }
        return takenMinutes(room, day);
    }

    public int busiest(int room, int from, int to) {
        if (!isRoom(room) || !areDays(from, to, SPAN_DAYS)) {
            return NONE;
        }
        int best = from;
        int most = 0;
        for (int day = from; day <= to; day++) {
            int taken = takenMinutes(room, day);
            if (taken > most) {
                most = taken;
                best = day;
            }
        }
        return best;
    }

    public int split(int booking, int day) {
        if (!shelf.has(booking) || !isDay(day) || shelf.isFull()) {
            return NONE;
        }
        Booking b = shelf.at(booking);
        if (b.keysIn(0, day - 1) == 0 || b.keysIn(day, LAST_DAY) == 0) {
            return NONE;
        }
        b.cutInto(shelf.spare(), day);
        return shelf.keepSpare();
    }

    public int period(int booking) {
        if (!shelf.has(booking)) {
            return NONE;
        }
        return asInt(shelf.at(booking).rule.cycle());
    }

    public int periodOf(int one, int other) {
        if (!shelf.has(one) || !shelf.has(other)) {
            return NONE;
        }
        return asInt(commonMultiple(shelf.at(one).rule.cycle(), shelf.at(other).rule.cycle()));
    }

    public int of(int booking, int what) {
        if (!shelf.has(booking)) {
            return OTHERS;
        }
        return shelf.at(booking).tell(what);
    }

    public boolean image(int i) {
        if (i < 0 || i >= images.length) {
            return false;
        }
        if (images[i] == null) {
            images[i] = new Shelf();
        }
        images[i].copyFrom(shelf);
        return true;
    }

    public boolean back(int i) {
        if (i < 0 || i >= images.length || images[i] == null) {
            return false;
        }
        shelf.copyFrom(images[i]);
        return true;
    }

    public int told(int what) {
        switch (what) {
            case 0:
                return shelf.size;
            case 1:
                return tapeSize;
            case 2:
                return shelf.roomBits();
            case 3:
                return imageBits();
            default:
                return NONE;
        }
    }

    private void putBytes(long eight) {
        for (int shift = 56; shift >= 0 && tapeSize < TAPE_BYTES; shift -= 8) {
            tape[tapeSize] = (char) (eight >>> shift & 255);
            tapeSize++;
        }
    }

    private int imageBits() {
        int bits = 0;
        for (int i = 0; i < images.length; i++) {
            if (images[i] != null) {
                bits |= 1 << i;
            }
        }
        return bits;
    }

    private static boolean isDay(int day) {
        return day >= 0 && day <= LAST_DAY;
    }

    private static boolean isTime(int time) {
        return time >= 0 && time <= LAST_TIME;
    }

    private static boolean isRoom(int room) {
        return room >= 0 && room <= LAST_ROOM;
    }

    private static boolean areDays(int from, int to, int most) {
        return isDay(from) && isDay(to) && from <= to && to - from < most;
    }

    private boolean areTwo(int one, int other) {
        return shelf.has(one) && shelf.has(other) && one != other;
    }

    private static int asInt(long number) {
        return number > LARGEST_INT ? OTHERS : (int) number;
    }

    private static long commonDivisor(long one, long other) {
        long a = one;
        long b = other;
        // Euclid's steps on longs are fewer than 100.
        for (int i = 0; i < 100 && b != 0; i++) {
            long rest = a % b;
            a = b;
            b = rest;
        }
        return a;
    }

    private static long commonMultiple(long one, long other) {
        long divisor = commonDivisor(one, other);
        if (one == 0 || other == 0 || divisor == 0) {
            return 0;
        }
        return one / divisor * other;
    }

    private int countOn(int room, int from, int to) {
        if (room != NONE && !isRoom(room) || !isTime(from) || !isTime(to)) {
            return NONE;
        }
        if (to <= from || to - from > SPAN_DAYS * MINUTES) {
            return NONE;
        }
        int found = 0;
        for (int i = 0; i < shelf.size; i++) {
            if (shelf.isOf(i, room)) {
                Booking b = shelf.at(i);
                found += b.beginsIn(from - b.length + 1, to - 1);
            }
        }
        return found;
    }

    /** The BOOKING of the i-th OCCURRENCE that ends behind a TIME; what it has found is that one. */
    private int walkOn(int room, int from, int i) {
        for (int k = 0; k < shelf.size; k++) {
            Booking b = shelf.at(k);
            b.seek(from - b.length + 1, 0);
        }
        int first = firstFound(room);
        for (int step = 0; step < i && shelf.has(first); step++) {
            Booking b = shelf.at(first);
            b.seek(b.foundTime, b.foundKey + 1);
            first = firstFound(room);
        }
        return first;
    }

    private int firstFound(int room) {
        int first = NONE;
        int least = NEVER;
        for (int i = 0; i < shelf.size; i++) {
            Booking b = shelf.at(i);
            if (shelf.isOf(i, room) && b.foundKey != NONE && b.foundTime < least) {
                least = b.foundTime;
                first = i;
            }
        }
        return first;
    }

    /** The first CLASH with a MOVED one of either, if it is ahead of the bound; else the bound. */
    private static int movedClash(Booking a, Booking b, int time, int bound) {
        int first = bound;
        for (int i = 0; i < a.changes; i++) {
            if (a.changedTimes[i] != NONE) {
                first = Math.min(first, b.meet(a.changedTimes[i], a.length, time));
            }
        }
        for (int i = 0; i < b.changes; i++) {
            if (b.changedTimes[i] != NONE) {
                first = Math.min(first, a.meet(b.changedTimes[i], b.length, time));
            }
        }
        return first;
    }

    /** The first CLASH of OCCURRENCES as the RULES have them, if it is ahead of the bound; else the bound. */
    private static int ruledClash(Booking a, Booking b, int time, int bound) {
        Booking few = a.total <= b.total ? a : b;
        Booking many = a.total <= b.total ? b : a;
        int first = bound;
        int last = lastKeyToTry(few, many, time);
        int key = few.keyFrom(Math.max(time / MINUTES, many.firstKey) - REACH);
        for (int i = 0; i <= LAST_DAY && key != NONE && key <= last && few.timeOf(key) < first; i++) {
            int begin = few.timeOf(key);
            int near = many.keyFrom(many.ruledFrom(begin - many.length + 1));
            if (near == NONE) {
                return first;
            }
            int reaching = few.ruledFrom(many.timeOf(near) - few.length + 1);
            if (reaching > key) {
                key = few.keyFrom(reaching);
                continue;
            }
            if (few.changeOf(key) == NONE) {
                first = Math.min(first, many.meet(begin, few.length, time));
            }
            key = few.keyFrom(key + 1);
        }
        return first;
    }

    /**
     * From where both go on, all comes again after their common PERIOD, and a changed OCCURRENCE
     * spoils a CLASH in one PERIOD alone: so the first one that is not spoilt is not behind this DAY.
     */
    private static int lastKeyToTry(Booking a, Booking b, int time) {
        long cycle = commonMultiple(a.rule.cycle(), b.rule.cycle());
        if (cycle == 0) {
            return LAST_DAY;
        }
        int begun = Math.max(Math.max(a.firstKey, b.firstKey), time / MINUTES + 1) + REACH;
        return (int) Math.min(begun + (a.changes + b.changes + 1) * cycle, LAST_DAY);
    }

    /** How many twos CLASH at the TIME of the later one's OCCURRENCE, the other begun so much ahead or more. */
    private static int countMet(Booking later, Booking earlier, int from, int to, int gap) {
        int met = 0;
        boolean more = later.seek(from, 0);
        for (int i = 0; i <= LAST_DAY && more && later.foundTime <= to; i++) {
            met += earlier.beginsIn(later.foundTime - earlier.length + 1, later.foundTime - gap);
            more = later.seek(later.foundTime, later.foundKey + 1);
        }
        return met;
    }

    /** The last end of what is on in a ROOM at some time of these MINUTES; the TIME itself, if nothing is. */
    private int takenTill(int room, int time, int minutes) {
        int till = time;
        for (int i = 0; i < shelf.size; i++) {
            Booking b = shelf.at(i);
            if (shelf.isOf(i, room) && b.seekAhead(time + minutes)) {
                till = Math.max(till, b.foundTime + b.length);
            }
        }
        return till;
    }

    private int firstBegin(int room, int time) {
        int first = NEVER;
        for (int i = 0; i < shelf.size; i++) {
            Booking b = shelf.at(i);
            if (shelf.isOf(i, room) && b.seek(time, 0)) {
                first = Math.min(first, b.foundTime);
            }
        }
        return first;
    }

    private int takenMinutes(int room, int day) {
        int at = day * MINUTES;
        int stop = at + MINUTES;
        int taken = 0;
        for (int i = 0; i < MINUTES && at < stop; i++) {
            int till = Math.min(takenTill(room, at, 1), stop);
            taken += till - at;
            at = till > at ? till : Math.min(firstBegin(room, at), stop);
        }
        return taken;
    }

    /** Months are numbered from January 2000 on: 0 to 1199. */
    private static final class Calendar {
        private static final int MONTHS = 1200;
        /** The calendar as it is here comes again after four years. */
        private static final int CYCLE_DAYS = 1461;
        private static final int CYCLE_MONTHS = 48;
        private static final int[] CYCLE = {
            0, 31, 60, 91, 121, 152, 182, 213, 244, 274, 305, 335,
            366, 397, 425, 456, 486, 517, 547, 578, 609, 639, 670, 700,
            731, 762, 790, 821, 851, 882, 912, 943, 974, 1004, 1035, 1065,
            1096, 1127, 1155, 1186, 1216, 1247, 1277, 1308, 1339, 1369, 1400, 1430,
        };

        private static int monthNumber(int year, int month) {
            return (year - 2000) * 12 + month - 1;
        }

        private static int monthStart(int month) {
            if (month < 0) {
                return 0;
            }
            return month / CYCLE_MONTHS * CYCLE_DAYS + CYCLE[month % CYCLE_MONTHS];
        }

        private static int monthOf(int day) {
            if (day < 0) {
                return 0;
            }
            int rest = day % CYCLE_DAYS;
            // No month has more than 31 days, so this is none behind the month that is looked for.
            int month = rest / 31;
            while (month + 1 < CYCLE_MONTHS && CYCLE[month + 1] <= rest) {
                month++;
            }
            return day / CYCLE_DAYS * CYCLE_MONTHS + month;
        }

        private static int weekdayOf(int day) {
            // DAY 0 is a Saturday.
            return (day + 5) % 7;
        }

        private static int daysOfMonth(int year, int month) {
            if (year < 2000 || year > 2099 || month < 1 || month > 12) {
                return 0;
            }
            int number = monthNumber(year, month);
            return monthStart(number + 1) - monthStart(number);
        }
    }

    /** On which DAYS a RULE is ON; it never changes, so that copies of a BOOKING share it. */
    private abstract static class Rule {
        final int kind;
        final int every;
        final int start;

        Rule(int kind, int every, int start) {
            this.kind = kind;
            this.every = every;
            this.start = start;
        }

        /** The first DAY from one on; NONE: none. */
        abstract int dayFrom(int day);

        /** The last DAY up to one; NONE: none. */
        abstract int dayTo(int day);

        abstract int daysIn(int from, int to);

        abstract long cycle();

        int detail() {
            return 0;
        }

        int nthWeekday() {
            return NONE;
        }
    }

    private static final class OnceRule extends Rule {
        OnceRule(int start) {
            super(ONCE, 0, start);
        }

        int dayFrom(int day) {
            return day <= start ? start : NONE;
        }

        int dayTo(int day) {
            return day >= start ? start : NONE;
        }

        int daysIn(int from, int to) {
            return from <= start && start <= to ? 1 : 0;
        }

        long cycle() {
            return 0;
        }
    }

    private static final class DaysRule extends Rule {
        private final int step;

        DaysRule(int every, int start) {
            super(DAYS, every, start);
            this.step = Math.max(every, 1);
        }

        int dayFrom(int day) {
            if (day <= start) {
                return start;
            }
            int found = start + (day - start + step - 1) / step * step;
            return found <= LAST_DAY ? found : NONE;
        }

        int dayTo(int day) {
            return day < start ? NONE : day - (day - start) % step;
        }

        int daysIn(int from, int to) {
            return daysUpTo(to) - daysUpTo(from - 1);
        }

        private int daysUpTo(int day) {
            return day < start ? 0 : (day - start) / step + 1;
        }

        long cycle() {
            return step;
        }
    }

    private static final class WeeksRule extends Rule {
        private final int step;
        private final int weekdays;
        /** The first day of the WEEK of START; it may be ahead of DAY 0. */
        private final int monday;

        WeeksRule(int every, int start, int weekdays) {
            super(WEEKS, every, start);
            this.step = Math.max(every, 1);
            this.weekdays = weekdays;
            this.monday = start - Calendar.weekdayOf(start);
        }

        int dayFrom(int day) {
            int from = Math.max(day, start);
            int week = (from - monday) / 7;
            int behind = week % step;
            int weekday = behind == 0 ? (from - monday) % 7 : 0;
            int first = behind == 0 ? week : week - behind + step;
            int found = firstWeekday(weekday);
            if (found == NONE) {
                first += step;
                found = firstWeekday(0);
            }
            int on = monday + 7 * first + found;
            return on <= LAST_DAY ? on : NONE;
        }

        int dayTo(int day) {
            if (day < start) {
                return NONE;
            }
            int week = (day - monday) / 7;
            int behind = week % step;
            int weekday = behind == 0 ? (day - monday) % 7 : 6;
            int last = week - behind;
            int found = lastWeekday(weekday);
            if (found == NONE) {
                last -= step;
                found = lastWeekday(6);
            }
            int on = monday + 7 * last + found;
            return on >= start ? on : NONE;
        }

        int daysIn(int from, int to) {
            return daysUpTo(to) - daysUpTo(Math.max(from, start) - 1);
        }

        /** From the WEEK of START on, those ahead of START too: a difference leaves them out. */
        private int daysUpTo(int day) {
            if (day < monday) {
                return 0;
            }
            int week = (day - monday) / 7;
            int whole = (week + step - 1) / step * Integer.bitCount(weekdays);
            if (week % step != 0) {
                return whole;
            }
            int upToIt = (2 << (day - monday) % 7) - 1;
            return whole + Integer.bitCount(weekdays & upToIt);
        }

        private int firstWeekday(int from) {
            for (int i = from; i < 7; i++) {
                if ((weekdays >> i & 1) == 1) {
                    return i;
                }
            }
            return NONE;
        }

        private int lastWeekday(int to) {
            for (int i = to; i >= 0; i--) {
                if ((weekdays >> i & 1) == 1) {
                    return i;
                }
            }
            return NONE;
        }

        long cycle() {
            return 7L * step;
        }

        int detail() {
            return weekdays;
        }
    }

    /** Years are months of START's kind, twelve times as far apart. */
    private static final class MonthsRule extends Rule {
        private final int step;
        private final int firstMonth;
        private final int number;
        private final int weekday;

        MonthsRule(int kind, int every, int start, int number, int weekday) {
            super(kind, every, start);
            this.step = Math.max(kind == YEARS ? 12 * every : every, 1);
            this.firstMonth = Calendar.monthOf(start);
            this.number = kind == YEARS ? start - Calendar.monthStart(firstMonth) + 1 : number;
            this.weekday = weekday;
        }

        int dayFrom(int day) {
            int from = Math.max(day, start);
            for (int month = monthFrom(from); month < Calendar.MONTHS; month += step) {
                int on = dayIn(month);
                if (on >= from) {
                    return on;
                }
            }
            return NONE;
        }

        int dayTo(int day) {
            int month = Calendar.monthOf(day);
            for (month -= (month - firstMonth) % step; month >= firstMonth; month -= step) {
                int on = dayIn(month);
                if (on != NONE && on <= day) {
                    return on >= start ? on : NONE;
                }
            }
            return NONE;
        }

        int daysIn(int from, int to) {
            int first = Math.max(from, start);
            int last = Calendar.monthOf(to);
            int days = 0;
            for (int month = monthFrom(first); month <= last; month += step) {
                int on = dayIn(month);
                if (on >= first && on <= to) {
                    days++;
                }
            }
            return days;
        }

        /** The first month for the RULE from that of a DAY on. */
        private int monthFrom(int day) {
            int month = Calendar.monthOf(day);
            int behind = (month - firstMonth) % step;
            return behind == 0 ? month : month - behind + step;
        }

        private int dayIn(int month) {
            int first = Calendar.monthStart(month);
            int last = Calendar.monthStart(month + 1) - 1;
            int on;
            switch (kind) {
                case MONTHS_END:
                    on = last - number + 1;
                    break;
                case MONTHS_NTH:
                    on = first + (weekday - Calendar.weekdayOf(first) + 7) % 7 + 7 * (number - 1);
                    break;
                case MONTHS_LAST:
                    on = last - (Calendar.weekdayOf(last) - weekday + 7) % 7;
                    break;
                default:
                    on = first + number - 1;
                    break;
            }
            return on <= last ? on : NONE;
        }

        long cycle() {
            return 146097L * (commonMultiple(step, 4800) / 4800);
        }

        int detail() {
            if (kind == YEARS) {
                return 0;
            }
            return kind == MONTHS_LAST ? weekday : number;
        }

        int nthWeekday() {
            return kind == MONTHS_NTH ? weekday : NONE;
        }
    }

    private static final class Booking {
        int room;
        int minute;
        int length;
        Rule rule;
        int until;
        int times;
        /** No KEY is ahead of this DAY: START, or where it was SPLIT off. */
        int low;
        int firstKey;
        int lastKey;
        int total;
        int changes;
        final int[] changedKeys = new int[MOST_CHANGES];
        /** Where it is MOVED to; NONE: DROPPED. */
        final int[] changedTimes = new int[MOST_CHANGES];
        /** The OCCURRENCE that was sought last. */
        int foundTime;
        int foundKey;

        Booking(Rule rule) {
            this.rule = rule;
        }

        void begin(Rule itsRule) {
            rule = itsRule;
            low = itsRule.start;
            until = NONE;
            times = NONE;
            changes = 0;
        }

        /** The bounds of the KEYS are worked out once, so that no later call has to count them. */
        void settle() {
            int high = until == NONE ? LAST_DAY : until;
            firstKey = rule.dayFrom(low);
            lastKey = times == NONE ? rule.dayTo(high) : lastOfTimes();
            if (firstKey == NONE || lastKey < firstKey) {
                firstKey = NONE;
                lastKey = NONE;
            }
            total = firstKey == NONE ? 0 : rule.daysIn(firstKey, lastKey);
        }

        private int lastOfTimes() {
            int last = firstKey;
            for (int i = 1; i < times && last != NONE; i++) {
                int further = rule.dayFrom(last + 1);
                if (further == NONE) {
                    return last;
                }
                last = further;
            }
            return last;
        }

        void copyFrom(Booking other) {
            room = other.room;
            minute = other.minute;
            length = other.length;
            rule = other.rule;
            until = other.until;
            times = other.times;
            low = other.low;
            firstKey = other.firstKey;
            lastKey = other.lastKey;
            total = other.total;
            changes = other.changes;
            System.arraycopy(other.changedKeys, 0, changedKeys, 0, MOST_CHANGES);
            System.arraycopy(other.changedTimes, 0, changedTimes, 0, MOST_CHANGES);
        }

        void cutInto(Booking tail, int day) {
            tail.copyFrom(this);
            tail.low = day;
            if (times == NONE) {
                until = day - 1;
            } else {
                times = keysIn(0, day - 1);
                tail.times = total - times;
            }
            for (int i = MOST_CHANGES - 1; i >= 0; i--) {
                if (i < tail.changes && tail.changedKeys[i] < day) {
                    tail.forget(i);
                }
                if (i < changes && changedKeys[i] >= day) {
                    forget(i);
                }
            }
            settle();
            tail.settle();
        }

        int keyFrom(int day) {
            if (firstKey == NONE || day > lastKey) {
                return NONE;
            }
            return day <= firstKey ? firstKey : rule.dayFrom(day);
        }

        int keyTo(int day) {
            if (firstKey == NONE || day < firstKey) {
                return NONE;
            }
            return day >= lastKey ? lastKey : rule.dayTo(day);
        }

        boolean isKey(int day) {
            return isDay(day) && keyFrom(day) == day;
        }

        int keysIn(int from, int to) {
            int first = Math.max(from, firstKey);
            int last = Math.min(to, lastKey);
            return firstKey == NONE || first > last ? 0 : rule.daysIn(first, last);
        }

        int timeOf(int key) {
            return key * MINUTES + minute;
        }

        /** Where a KEY stands among the changed ones; NONE: it is as at first. */
        int changeOf(int key) {
            for (int i = 0; i < changes; i++) {
                if (changedKeys[i] == key) {
                    return i;
                }
            }
            return NONE;
        }

        boolean isDropped(int key) {
            int i = changeOf(key);
            return i != NONE && changedTimes[i] == NONE;
        }

        boolean change(int key, int time) {
            int i = changeOf(key);
            if (i == NONE) {
                if (changes >= MOST_CHANGES) {
                    return false;
                }
                i = changes;
                changes++;
            }
            changedKeys[i] = key;
            changedTimes[i] = time;
            return true;
        }

        int undoChange(int key) {
            int i = changeOf(key);
            if (i == NONE) {
                return 0;
            }
            int was = changedTimes[i] == NONE ? 1 : 2;
            forget(i);
            return was;
        }

        private void forget(int i) {
            changes--;
            changedKeys[i] = changedKeys[changes];
            changedTimes[i] = changedTimes[changes];
        }

        private int droppedOnes() {
            int dropped = 0;
            for (int i = 0; i < changes; i++) {
                if (changedTimes[i] == NONE) {
                    dropped++;
                }
            }
            return dropped;
        }

        /** The first KEY of which the TIME, as the RULE has it, is not ahead of one. */
        int ruledFrom(int time) {
            return Math.floorDiv(time - minute + MINUTES - 1, MINUTES);
        }

        private int ruledTo(int time) {
            return Math.floorDiv(time - minute, MINUTES);
        }

        /** Finds the first OCCURRENCE from a TIME on, of those at this TIME from a KEY on. */
        boolean seek(int time, int key) {
            int ruled = keyFrom(ruledFrom(time));
            if (ruled != NONE && ruled < key && timeOf(ruled) == time) {
                ruled = keyFrom(ruled + 1);
            }
            for (int i = 0; i < changes && ruled != NONE && changeOf(ruled) != NONE; i++) {
                ruled = keyFrom(ruled + 1);
            }
            foundKey = ruled;
            foundTime = ruled == NONE ? NEVER : timeOf(ruled);
            for (int i = 0; i < changes; i++) {
                int t = changedTimes[i];
                int k = changedKeys[i];
                boolean fits = t > time || t == time && k >= key;
                if (t != NONE && fits && (t < foundTime || t == foundTime && k < foundKey)) {
                    foundTime = t;
                    foundKey = k;
                }
            }
            return foundKey != NONE;
        }

        /** Finds the last OCCURRENCE that begins ahead of a TIME. */
        boolean seekAhead(int time) {
            int ruled = keyTo(ruledTo(time - 1));
            for (int i = 0; i < changes && ruled != NONE && changeOf(ruled) != NONE; i++) {
                ruled = keyTo(ruled - 1);
            }
            foundKey = ruled;
            foundTime = ruled == NONE ? NONE : timeOf(ruled);
            for (int i = 0; i < changes; i++) {
                int t = changedTimes[i];
                int k = changedKeys[i];
                if (t != NONE && t < time && (t > foundTime || t == foundTime && k > foundKey)) {
                    foundTime = t;
                    foundKey = k;
                }
            }
            return foundKey != NONE;
        }

        int found(int what) {
            if (foundKey == NONE || what < 0 || what > 1) {
                return NONE;
            }
            return what == 0 ? foundTime : foundKey;
        }

        int beginsIn(int from, int to) {
            int first = ruledFrom(from);
            int last = ruledTo(to);
            int begins = keysIn(first, last);
            for (int i = 0; i < changes; i++) {
                if (changedKeys[i] >= first && changedKeys[i] <= last) {
                    begins--;
                }
                if (changedTimes[i] != NONE && changedTimes[i] >= from && changedTimes[i] <= to) {
                    begins++;
                }
            }
            return begins;
        }

        /** The first CLASH, from a TIME on, with what begins at another one and is so long; NEVER: none. */
        int meet(int begin, int itsLength, int time) {
            if (begin >= time && seekAhead(begin + 1) && foundTime + length > begin) {
                return begin;
            }
            if (seek(Math.max(begin + 1, time), 0) && foundTime < begin + itsLength) {
                return foundTime;
            }
            return NEVER;
        }

        int tell(int what) {
            switch (what) {
                case 0:
                    return room;
                case 1:
                    return minute;
                case 2:
                    return length;
                case 3:
                    return rule.kind;
                case 4:
                    return rule.every;
                case 5:
                    return rule.start;
                case 6:
                    return rule.detail();
                case 7:
                    return rule.nthWeekday();
                case 8:
                    return until;
                case 9:
                    return times;
                case 10:
                    return droppedOnes();
                case 11:
                    return changes - droppedOnes();
                case 12:
                    return firstKey;
                case 13:
                    return lastKey;
                default:
                    return OTHERS;
            }
        }
    }

    /** BOOKINGS in their order; its rows are made once and used again. */
    private static final class Shelf {
        private final Booking[] rows = new Booking[MOST_BOOKINGS];
        private int size = 0;

        Shelf() {
            Rule blank = new OnceRule(0);
            for (int i = 0; i < rows.length; i++) {
                rows[i] = new Booking(blank);
            }
        }

        boolean has(int i) {
            return i >= 0 && i < size;
        }

        boolean isFull() {
            return size >= rows.length;
        }

        Booking at(int i) {
            return rows[i];
        }

        /** Of a ROOM, or, with NONE, of any. */
        boolean isOf(int i, int room) {
            return room == NONE || rows[i].room == room;
        }

        /** The row behind the last one: what is not to be kept may be left in it. */
        Booking spare() {
            return rows[Math.min(size, rows.length - 1)];
        }

        int keepSpare() {
            size = Math.min(size + 1, rows.length);
            return size - 1;
        }

        void remove(int i) {
            Booking gone = rows[i];
            size--;
            for (int k = i; k < size; k++) {
                rows[k] = rows[k + 1];
            }
            rows[size] = gone;
        }

        void copyFrom(Shelf other) {
            size = other.size;
            for (int i = 0; i < size; i++) {
                rows[i].copyFrom(other.rows[i]);
            }
        }

        int roomBits() {
            int bits = 0;
            for (int i = 0; i < size; i++) {
                bits |= 1 << rows[i].room;
            }
            return bits;
        }
    }

    /** Reads one text, TOKEN by TOKEN, up to its first FAULT. */
    private static final class Reader {
        private static final int MISPLACED = 1;
        private static final int OUT_OF_BOUNDS = 2;
        private static final int UNTIL_AHEAD = 3;

        private static final int END = 0;
        private static final int WORD = 1;
        private static final int NUMBER = 2;
        private static final int OTHER = 3;

        private static final int MOST_DIGITS = 4;
        private static final String WEEKDAYS = "montuewedthufrisatsun";

        private final char[] text;
        private final int length;
        /** The TOKEN that is looked at. */
        private int type = END;
        private int place = 0;
        private int stop = 0;
        /** 8 * place + kind; 0: none. */
        private int fault = 0;
        private int kind = ONCE;
        private int every = 0;
        private int number = 0;
        private int weekday = 0;

        Reader(char[] text, int length) {
            this.text = text;
            this.length = Math.min(length, text.length);
        }

        /** The FAULT as 8 * place + kind; 0: there is none, and the BOOKING is as told. */
        int read(Booking b) {
            step();
            if (readPlace(b) && readRule() && readSpan(b)) {
                if (type == END) {
                    b.settle();
                } else {
                    refuse(MISPLACED);
                }
            }
            return fault;
        }

        private boolean readPlace(Booking b) {
            if (!require("book")) {
                return false;
            }
            b.room = takeNumber(0, LAST_ROOM);
            if (b.room == NONE || !require("at")) {
                return false;
            }
            b.minute = takeNumber(0, MINUTES - 1);
            if (b.minute == NONE || !require("for")) {
                return false;
            }
            b.length = takeNumber(1, LONGEST);
            return b.length != NONE;
        }

        private boolean readRule() {
            if (take("once")) {
                return true;
            }
            if (!require("every")) {
                return false;
            }
            every = takeNumber(1, 999);
            if (every == NONE) {
                return false;
            }
            if (take("days")) {
                kind = DAYS;
                return true;
            }
            if (take("years")) {
                kind = YEARS;
                return true;
            }
            if (take("weeks")) {
                kind = WEEKS;
                return readWeekdays();
            }
            return require("months") && readMonths();
        }

        private boolean readWeekdays() {
            // Seven there are, so the eighth is told twice.
            for (int i = 0; i < 8 && weekdayHere() != NONE; i++) {
                int bit = 1 << weekdayHere();
                if ((number & bit) != 0) {
                    return refuse(OUT_OF_BOUNDS);
                }
                number |= bit;
                step();
            }
            return number != 0 || refuse(MISPLACED);
        }

        private boolean readMonths() {
            if (take("on")) {
                kind = MONTHS_ON;
                number = takeNumber(1, 31);
                return number != NONE;
            }
            if (take("end")) {
                kind = MONTHS_END;
                number = takeNumber(1, 28);
                return number != NONE;
            }
            if (take("nth")) {
                kind = MONTHS_NTH;
                number = takeNumber(1, 5);
                return number != NONE && readWeekday();
            }
            kind = MONTHS_LAST;
            return require("last") && readWeekday();
        }

        private boolean readWeekday() {
            weekday = weekdayHere();
            if (weekday == NONE) {
                return refuse(MISPLACED);
            }
            step();
            return true;
        }

        private boolean readSpan(Booking b) {
            if (!require("from")) {
                return false;
            }
            int start = readDate();
            if (start == NONE) {
                return false;
            }
            b.begin(makeRule(start));
            if (take("times")) {
                b.times = takeNumber(1, 999);
                return b.times != NONE;
            }
            return !take("until") || readUntil(b, start);
        }

        private boolean readUntil(Booking b, int start) {
            int year = place;
            b.until = readDate();
            if (b.until == NONE) {
                return false;
            }
            if (b.until < start) {
                fault = 8 * year + UNTIL_AHEAD;
                return false;
            }
            return true;
        }

        private int readDate() {
            int year = takeNumber(2000, 2099);
            if (year == NONE) {
                return NONE;
            }
            int month = takeNumber(1, 12);
            if (month == NONE) {
                return NONE;
            }
            int day = takeNumber(1, Calendar.daysOfMonth(year, month));
            if (day == NONE) {
                return NONE;
            }
            return Calendar.monthStart(Calendar.monthNumber(year, month)) + day - 1;
        }

        private Rule makeRule(int start) {
            switch (kind) {
                case ONCE:
                    return new OnceRule(start);
                case DAYS:
                    return new DaysRule(every, start);
                case WEEKS:
                    return new WeeksRule(every, start, number);
                default:
                    return new MonthsRule(kind, every, start, number, weekday);
            }
        }

        /** Answers false, for a reader to hand on. */
        private boolean refuse(int faultKind) {
            fault = 8 * place + faultKind;
            return false;
        }

        private boolean require(String word) {
            return take(word) || refuse(MISPLACED);
        }

        private boolean take(String word) {
            if (type != WORD || stop - place != word.length() || !standsHere(word, 0)) {
                return false;
            }
            step();
            return true;
        }

        /** NONE behind a FAULT. */
        private int takeNumber(int least, int most) {
            if (type != NUMBER || stop - place > MOST_DIGITS) {
                refuse(MISPLACED);
                return NONE;
            }
            int value = 0;
            for (int i = place; i < stop; i++) {
                value = 10 * value + text[i] - '0';
            }
            if (value < least || value > most) {
                refuse(OUT_OF_BOUNDS);
                return NONE;
            }
            step();
            return value;
        }

        private int weekdayHere() {
            if (type != WORD || stop - place != 3) {
                return NONE;
            }
            for (int i = 0; i < 7; i++) {
                if (standsHere(WEEKDAYS, 3 * i)) {
                    return i;
                }
            }
            return NONE;
        }

        /** The TOKEN's signs are those of a text from one of its places on. */
        private boolean standsHere(String signs, int from) {
            for (int i = place; i < stop; i++) {
                int at = from + i - place;
                if (at >= signs.length() || text[i] != signs.charAt(at)) {
                    return false;
                }
            }
            return true;
        }

        private void step() {
            place = stop;
            while (place < length && text[place] == ' ') {
                place++;
            }
            type = typeAt(place);
            stop = place;
            while (stop < length && type != OTHER && typeAt(stop) == type) {
                stop++;
            }
        }

        private int typeAt(int i) {
            if (i >= length) {
                return END;
            }
            char sign = text[i];
            if (sign >= 'a' && sign <= 'z') {
                return WORD;
            }
            return sign >= '0' && sign <= '9' ? NUMBER : OTHER;
        }
    }
}
