import java.time.DayOfWeek;
import java.time.LocalDate;
import java.time.temporal.ChronoUnit;
import java.util.ArrayList;
import java.util.Comparator;
import java.util.List;
import java.util.NoSuchElementException;
import java.util.TreeMap;

/** The document done the long way: every rule unrolled day by day with the library's calendar. */
final class Model {
    static final LocalDate ZERO = LocalDate.of(2000, 1, 1);
    static final int LAST_DAY = 36524;
    static final int LAST_TIME = 36525 * 1440 - 1;
    static final List<String> WEEKDAYS = List.of("mon", "tue", "wed", "thu", "fri", "sat", "sun");
    private static final LocalDate[] DATES = new LocalDate[LAST_DAY + 1];

    static {
        for (int i = 0; i <= LAST_DAY; i++) {
            DATES[i] = ZERO.plusDays(i);
        }
    }

    record Occurrence(int time, int key, int booking) {
    }

    static final class Entry {
        int room;
        int minute;
        int length;
        int kind;
        int n;
        int start;
        int number;
        int weekday;
        int until = -1;
        int times = -1;
        List<Integer> keys = new ArrayList<>();
        TreeMap<Integer, Integer> changed = new TreeMap<>();
        private List<Occurrence> sorted = null;

        Entry copy() {
            Entry e = new Entry();
            e.room = room;
            e.minute = minute;
            e.length = length;
            e.kind = kind;
            e.n = n;
            e.start = start;
            e.number = number;
            e.weekday = weekday;
            e.until = until;
            e.times = times;
            e.keys = new ArrayList<>(keys);
            e.changed = new TreeMap<>(changed);
            return e;
        }

        boolean isOn(int day) {
            if (day < start) {
                return false;
            }
            LocalDate d = DATES[day];
            LocalDate s = DATES[start];
            long months = ChronoUnit.MONTHS.between(s.withDayOfMonth(1), d.withDayOfMonth(1));
            switch (kind) {
                case 0:
                    return day == start;
                case 1:
                    return (day - start) % n == 0;
                case 2:
                    LocalDate monday = s.with(DayOfWeek.MONDAY);
                    long week = ChronoUnit.DAYS.between(monday, d) / 7;
                    return week % n == 0 && (number >> (d.getDayOfWeek().getValue() - 1) & 1) == 1;
                case 3:
                    return months % n == 0 && d.getDayOfMonth() == number;
                case 4:
                    return months % n == 0 && d.lengthOfMonth() - d.getDayOfMonth() + 1 == number;
                case 5:
                    return months % n == 0 && d.getDayOfWeek().getValue() - 1 == weekday
                            && (d.getDayOfMonth() - 1) / 7 + 1 == number;
                case 6:
                    return months % n == 0 && d.getDayOfWeek().getValue() - 1 == weekday
                            && d.lengthOfMonth() - d.getDayOfMonth() < 7;
                default:
                    return (d.getYear() - s.getYear()) % n == 0 && d.getMonthValue() == s.getMonthValue()
                            && d.getDayOfMonth() == s.getDayOfMonth();
            }
        }

        void unroll() {
            int last = until == -1 ? LAST_DAY : until;
            for (int day = start; day <= last && (times == -1 || keys.size() < times); day++) {
                if (isOn(day)) {
                    keys.add(day);
                }
            }
        }

        void touched() {
            sorted = null;
        }

        List<Occurrence> occurrences() {
            if (sorted == null) {
                sorted = new ArrayList<>();
                for (int key : keys) {
                    Integer to = changed.get(key);
                    if (to == null) {
                        sorted.add(new Occurrence(1440 * key + minute, key, 0));
                    } else if (to != -1) {
                        sorted.add(new Occurrence(to, key, 0));
                    }
                }
                sorted.sort(Comparator.comparingInt(Occurrence::time).thenComparingInt(Occurrence::key));
            }
            return sorted;
        }

        /** How many begin ahead of a time. */
        int aheadOf(int time) {
            int low = 0;
            int high = occurrences().size();
            while (low < high) {
                int mid = (low + high) / 2;
                if (occurrences().get(mid).time() < time) {
                    low = mid + 1;
                } else {
                    high = mid;
                }
            }
            return low;
        }
    }

    private StringBuilder tape = new StringBuilder();
    private List<Entry> entries = new ArrayList<>();
    private final List<List<Entry>> images = new ArrayList<>(List.of(List.of(), List.of()));
    private int imaged = 0;

    private static List<Entry> copies(List<Entry> from) {
        List<Entry> to = new ArrayList<>();
        for (Entry e : from) {
            to.add(e.copy());
        }
        return to;
    }

    private boolean has(int booking) {
        return booking >= 0 && booking < entries.size();
    }

    private static boolean isDay(int day) {
        return day >= 0 && day <= LAST_DAY;
    }

    private static boolean isTime(int time) {
        return time >= 0 && time <= LAST_TIME;
    }

    private static boolean isRoom(int room) {
        return room >= 0 && room <= 7;
    }

    int feed(long a, long b, long c) {
        if (tape.length() + 24 > 168) {
            return -1;
        }
        for (long v : new long[] {a, b, c}) {
            for (int i = 7; i >= 0; i--) {
                tape.append((char) (v >> 8 * i & 255));
            }
        }
        return tape.length();
    }

    int end(int n) {
        if (n < 0 || n > tape.length()) {
            return -1;
        }
        tape.setLength(n);
        return n;
    }

    int book() {
        String text = tape.toString();
        tape = new StringBuilder();
        if (text.length() > 160 || entries.size() == 12) {
            return -1;
        }
        ModelText parsed = new ModelText(text);
        Entry e = parsed.parse();
        if (e == null) {
            return -2 - parsed.fault;
        }
        e.unroll();
        entries.add(e);
        return entries.size() - 1;
    }

    boolean cancel(int booking) {
        if (!has(booking)) {
            return false;
        }
        entries.remove(booking);
        return true;
    }

    int day(int year, int month, int day) {
        if (year < 2000 || year > 2099 || month < 1 || month > 12 || day < 1) {
            return -1;
        }
        LocalDate first = LocalDate.of(year, month, 1);
        return day > first.lengthOfMonth() ? -1 : (int) ChronoUnit.DAYS.between(ZERO, first) + day - 1;
    }

    int date(int day, int what) {
        if (!isDay(day) || what < 0 || what > 4) {
            return -1;
        }
        LocalDate d = DATES[day];
        return new int[] {d.getYear(), d.getMonthValue(), d.getDayOfMonth(), d.getDayOfWeek().getValue() - 1,
            d.lengthOfMonth()}[what];
    }

    int key(int booking, int day) {
        if (has(booking) && isDay(day)) {
            for (int key : entries.get(booking).keys) {
                if (key >= day) {
                    return key;
                }
            }
        }
        return -1;
    }

    int keys(int booking, int from, int to) {
        if (!has(booking) || !isDay(from) || !isDay(to) || to < from) {
            return -1;
        }
        int found = 0;
        for (int key : entries.get(booking).keys) {
            found += key >= from && key <= to ? 1 : 0;
        }
        return found;
    }

    private boolean isKey(int booking, int key) {
        return has(booking) && entries.get(booking).keys.contains(key);
    }

    boolean drop(int booking, int key) {
        if (!isKey(booking, key)) {
            return false;
        }
        Entry e = entries.get(booking);
        Integer was = e.changed.get(key);
        if (was == null ? e.changed.size() == 16 : was == -1) {
            return false;
        }
        e.changed.put(key, -1);
        e.touched();
        return true;
    }

    boolean move(int booking, int key, int time) {
        if (!isKey(booking, key) || !isTime(time)) {
            return false;
        }
        Entry e = entries.get(booking);
        if (!e.changed.containsKey(key) && e.changed.size() == 16) {
            return false;
        }
        e.changed.put(key, time);
        e.touched();
        return true;
    }

    int restore(int booking, int key) {
        if (!isKey(booking, key)) {
            return -1;
        }
        Entry e = entries.get(booking);
        Integer was = e.changed.remove(key);
        e.touched();
        return was == null ? 0 : was == -1 ? 1 : 2;
    }

    private static int told(Occurrence o, int what) {
        return what == 0 ? o.time() : what == 1 ? o.key() : -1;
    }

    int next(int booking, int time, int what) {
        if (!has(booking) || !isTime(time)) {
            return -1;
        }
        Entry e = entries.get(booking);
        int i = e.aheadOf(time);
        return i < e.occurrences().size() ? told(e.occurrences().get(i), what) : -1;
    }

    int ahead(int booking, int time, int what) {
        if (!has(booking) || !isTime(time)) {
            return -1;
        }
        Entry e = entries.get(booking);
        int i = e.aheadOf(time);
        return i > 0 ? told(e.occurrences().get(i - 1), what) : -1;
    }

    int count(int booking, int from, int to) {
        if (!has(booking) || !isDay(from) || !isDay(to) || to < from) {
            return -1;
        }
        Entry e = entries.get(booking);
        return e.aheadOf(1440 * (to + 1)) - e.aheadOf(1440 * from);
    }

    private List<Occurrence> listOn(int room, int from, int to) {
        List<Occurrence> list = new ArrayList<>();
        for (int i = 0; i < entries.size(); i++) {
            Entry e = entries.get(i);
            if (room == -1 || e.room == room) {
                for (Occurrence o : e.occurrences()) {
                    if (o.time() < to && o.time() + e.length > from) {
                        list.add(new Occurrence(o.time(), o.key(), i));
                    }
                }
            }
        }
        list.sort(Comparator.comparingInt(Occurrence::time).thenComparingInt(Occurrence::booking)
                .thenComparingInt(Occurrence::key));
        return list;
    }

    private static boolean isSpan(int room, int from, int to) {
        return room >= -1 && room <= 7 && isTime(from) && isTime(to) && to > from && to - from <= 86400;
    }

    int on(int room, int from, int to) {
        return isSpan(room, from, to) ? listOn(room, from, to).size() : -1;
    }

    int onAt(int room, int from, int to, int i, int what) {
        if (isSpan(room, from, to) && i >= 0 && what >= 0 && what <= 2) {
            List<Occurrence> list = listOn(room, from, to);
            if (i < list.size()) {
                Occurrence o = list.get(i);
                return what == 0 ? o.booking() : what == 1 ? o.key() : o.time();
            }
        }
        throw new NoSuchElementException();
    }

    /** The first clash, and how many there are from one time to another. */
    private static int[] meet(Entry a, Entry b, int from, int to) {
        int first = Integer.MAX_VALUE;
        int met = 0;
        for (Occurrence o : a.occurrences()) {
            int stop = b.aheadOf(o.time() + a.length);
            for (int i = b.aheadOf(o.time() - b.length + 1); i < stop; i++) {
                int at = Math.max(o.time(), b.occurrences().get(i).time());
                if (at >= from && at <= to) {
                    first = Math.min(first, at);
                    met++;
                }
            }
        }
        return new int[] {first == Integer.MAX_VALUE ? -1 : first, met};
    }

    int clash(int one, int other, int time) {
        if (!has(one) || !has(other) || one == other || !isTime(time)) {
            return -1;
        }
        return meet(entries.get(one), entries.get(other), time, Integer.MAX_VALUE)[0];
    }

    int clashes(int one, int other, int from, int to) {
        if (!has(one) || !has(other) || one == other || !isDay(from) || !isDay(to) || to < from
                || to - from + 1 > 400) {
            return -1;
        }
        return meet(entries.get(one), entries.get(other), 1440 * from, 1440 * to + 1439)[1];
    }

    int roomClash(int room, int time, int what) {
        if (!isRoom(room) || !isTime(time) || what < 0 || what > 2) {
            return -1;
        }
        int[] best = {-1, -1, -1};
        for (int i = 0; i < entries.size(); i++) {
            for (int j = i + 1; j < entries.size(); j++) {
                if (entries.get(i).room == room && entries.get(j).room == room) {
                    int at = clash(i, j, time);
                    if (at != -1 && (best[0] == -1 || at < best[0])) {
                        best = new int[] {at, i, j};
                    }
                }
            }
        }
        return best[what];
    }

    /** Which minutes from a time on are taken. */
    private boolean[] taken(int room, int from, int minutes) {
        boolean[] taken = new boolean[minutes];
        for (Occurrence o : listOn(room, from, from + minutes)) {
            int stop = Math.min(o.time() + entries.get(o.booking()).length - from, minutes);
            for (int i = Math.max(o.time() - from, 0); i < stop; i++) {
                taken[i] = true;
            }
        }
        return taken;
    }

    int free(int room, int time, int minutes) {
        if (!isRoom(room) || !isTime(time) || minutes < 1 || minutes > 4320) {
            return -1;
        }
        boolean[] taken = taken(room, time, 86400 + 4320);
        int free = 0;
        for (int i = 0; i < taken.length; i++) {
            free = taken[i] ? 0 : free + 1;
            if (free == minutes) {
                int at = i - minutes + 1;
                return at <= 86400 && isTime(time + at) ? time + at : -1;
            }
        }
        return -1;
    }

    int busy(int room, int day) {
        if (!isRoom(room) || !isDay(day)) {
            return -1;
        }
        int busy = 0;
        for (boolean t : taken(room, 1440 * day, 1440)) {
            busy += t ? 1 : 0;
        }
        return busy;
    }

    int busiest(int room, int from, int to) {
        if (!isRoom(room) || !isDay(from) || !isDay(to) || to < from || to - from + 1 > 60) {
            return -1;
        }
        int best = from;
        for (int day = from; day <= to; day++) {
            if (busy(room, day) > busy(room, best)) {
                best = day;
            }
        }
        return best;
    }

    int split(int booking, int day) {
        if (!has(booking) || !isDay(day) || entries.size() == 12) {
            return -1;
        }
        Entry e = entries.get(booking);
        Entry head = e.copy();
        Entry tail = e.copy();
        head.keys.removeIf(key -> key >= day);
        tail.keys.removeIf(key -> key < day);
        if (head.keys.isEmpty() || tail.keys.isEmpty()) {
            return -1;
        }
        head.changed.keySet().removeIf(key -> key >= day);
        tail.changed.keySet().removeIf(key -> key < day);
        if (e.times != -1) {
            head.times = head.keys.size();
            tail.times = tail.keys.size();
        } else {
            head.until = day - 1;
        }
        entries.set(booking, head);
        entries.add(tail);
        return entries.size() - 1;
    }

    private static long divisor(long a, long b) {
        return b == 0 ? a : divisor(b, a % b);
    }

    private static long periodOf(Entry e) {
        switch (e.kind) {
            case 0:
                return 0;
            case 1:
                return e.n;
            case 2:
                return 7 * e.n;
            default:
                long months = e.kind == 7 ? 12 * e.n : e.n;
                return 146097 * (months * 4800 / divisor(months, 4800) / 4800);
        }
    }

    private static int asInt(long v) {
        return v != (int) v ? -2 : (int) v;
    }

    int period(int booking) {
        return has(booking) ? asInt(periodOf(entries.get(booking))) : -1;
    }

    int periodOf(int one, int other) {
        if (!has(one) || !has(other)) {
            return -1;
        }
        long a = periodOf(entries.get(one));
        long b = periodOf(entries.get(other));
        return a == 0 || b == 0 ? 0 : asInt(a * b / divisor(a, b));
    }

    int of(int booking, int what) {
        if (!has(booking) || what < 0 || what > 13) {
            return -2;
        }
        Entry e = entries.get(booking);
        int dropped = 0;
        for (int to : e.changed.values()) {
            dropped += to == -1 ? 1 : 0;
        }
        int six = e.kind >= 2 && e.kind <= 5 ? e.number : e.kind == 6 ? e.weekday : 0;
        return new int[] {e.room, e.minute, e.length, e.kind, e.kind == 0 ? 0 : e.n, e.start, six,
            e.kind == 5 ? e.weekday : -1, e.until, e.times, dropped, e.changed.size() - dropped,
            e.keys.isEmpty() ? -1 : e.keys.get(0), e.keys.isEmpty() ? -1 : e.keys.get(e.keys.size() - 1)}[what];
    }

    boolean image(int i) {
        if (i < 0 || i > 1) {
            return false;
        }
        images.set(i, copies(entries));
        imaged |= 1 << i;
        return true;
    }

    boolean back(int i) {
        if (i < 0 || i > 1 || (imaged >> i & 1) == 0) {
            return false;
        }
        entries = copies(images.get(i));
        return true;
    }

    int told(int what) {
        int rooms = 0;
        for (Entry e : entries) {
            rooms |= 1 << e.room;
        }
        return what < 0 || what > 3 ? -1 : new int[] {entries.size(), tape.length(), rooms, imaged}[what];
    }
}
