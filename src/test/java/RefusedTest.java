import java.util.ArrayList;
import java.util.List;
import java.util.function.Supplier;
import java.util.function.ToLongFunction;

/**
 * A refused call leaves everything as it was, and so does a call that only asks: an object that had it
 * in between tells the same as one that had not.
 */
public final class RefusedTest {
    private static final long THROWS = Long.MIN_VALUE;
    private static final int LAST_TIME = 52595999;

    private record Call(String name, ToLongFunction<BookIndex> call, long want) {
    }

    private static final List<Call> CALLS = new ArrayList<>();

    private static void call(String name, long want, ToLongFunction<BookIndex> call) {
        CALLS.add(new Call(name, call, want));
    }

    private static long bit(boolean answer) {
        return answer ? 1 : 0;
    }

    /** Each call on an object of its own, beside one without it. */
    private static void sameBehind(String kind, Supplier<BookIndex> make, boolean tapeToo) {
        String want = Made.told(make.get(), tapeToo);
        for (Call c : CALLS) {
            BookIndex x = make.get();
            Check.due(kind + ": " + c.name, c.call.applyAsLong(x), c.want);
            String got = Made.told(x, tapeToo);
            Check.due(kind + ": " + c.name + " left all as it was", got.equals(want), true);
        }
        CALLS.clear();
    }

    /** Refused whatever the object holds, if it has at most 12 bookings and 168 bytes. */
    private static void outside() {
        Check.says("NONE, false, -2: others");
        for (int b : Outside.bookings(12)) {
            call("cancel " + b, 0, x -> bit(x.cancel(b)));
            call("drop of " + b, 0, x -> bit(x.drop(b, 10)));
            call("move of " + b, 0, x -> bit(x.move(b, 10, 0)));
            call("restore of " + b, -1, x -> x.restore(b, 10));
            call("key of " + b, -1, x -> x.key(b, 0));
            call("keys of " + b, -1, x -> x.keys(b, 0, 1));
            call("next of " + b, -1, x -> x.next(b, 0, 0));
            call("ahead of " + b, -1, x -> x.ahead(b, LAST_TIME, 0));
            call("count of " + b, -1, x -> x.count(b, 0, 1));
            call("clash of " + b, -1, x -> x.clash(b, 0, 0));
            call("clashes of " + b, -1, x -> x.clashes(0, b, 0, 1));
            call("split of " + b, -1, x -> x.split(b, 20));
            call("period of " + b, -1, x -> x.period(b));
            call("periodOf " + b, -1, x -> x.periodOf(b, b));
            call("of " + b, -2, x -> x.of(b, 0));
        }
        for (int day : Outside.DAYS) {
            call("date " + day, -1, x -> x.date(day, 0));
            call("key from " + day, -1, x -> x.key(0, day));
            call("keys from " + day, -1, x -> x.keys(0, day, day));
            call("drop " + day, 0, x -> bit(x.drop(0, day)));
            call("move " + day, 0, x -> bit(x.move(0, day, 0)));
            call("restore " + day, -1, x -> x.restore(0, day));
            call("count to " + day, -1, x -> x.count(0, 0, day));
            call("clashes to " + day, -1, x -> x.clashes(0, 1, 0, day));
            call("busy " + day, -1, x -> x.busy(1, day));
            call("busiest to " + day, -1, x -> x.busiest(1, 0, day));
            call("split at " + day, -1, x -> x.split(0, day));
        }
        for (int time : Outside.TIMES) {
            call("move to " + time, 0, x -> bit(x.move(0, 10, time)));
            call("move a moved one to " + time, 0, x -> bit(x.move(0, 13, time)));
            call("move a dropped one to " + time, 0, x -> bit(x.move(0, 12, time)));
            call("next from " + time, -1, x -> x.next(0, time, 0));
            call("ahead of " + time, -1, x -> x.ahead(0, time, 0));
            call("on to " + time, -1, x -> x.on(-1, 0, time));
            call("onAt from " + time, THROWS, x -> Check.onAt(x, -1, time, 9, 0, 0));
            call("clash from " + time, -1, x -> x.clash(0, 1, time));
            call("roomClash from " + time, -1, x -> x.roomClash(1, time, 0));
            call("free from " + time, -1, x -> x.free(1, time, 1));
        }
        for (int room : Outside.ROOMS) {
            call("roomClash of " + room, -1, x -> x.roomClash(room, 0, 0));
            call("free of " + room, -1, x -> x.free(room, 0, 1));
            call("busy of " + room, -1, x -> x.busy(room, 0));
            call("busiest of " + room, -1, x -> x.busiest(room, 0, 1));
        }
        for (int i : Outside.IMAGES) {
            call("image " + i, 0, x -> bit(x.image(i)));
            call("back " + i, 0, x -> bit(x.back(i)));
        }
        for (int what : Outside.whats(3)) {
            call("told " + what, -1, x -> x.told(what));
        }
        for (int n : new int[] {-1, 169, Integer.MIN_VALUE, Integer.MAX_VALUE}) {
            call("end " + n, -1, x -> x.end(n));
        }
        call("day 30 Feb", -1, x -> x.day(2000, 2, 30));
        call("on of room 8", -1, x -> x.on(8, 0, 1));
        call("on of room -2", -1, x -> x.on(-2, 0, 1));
        call("on of no time", -1, x -> x.on(-1, 7, 7));
        call("on of more than 60 days", -1, x -> x.on(-1, 0, 86401));
        call("onAt -1", THROWS, x -> Check.onAt(x, -1, 0, 86400, -1, 0));
        call("onAt 5000", THROWS, x -> Check.onAt(x, -1, 0, 86400, 5000, 0));
        call("onAt what 3", THROWS, x -> Check.onAt(x, -1, 0, 86400, 0, 3));
        call("clash with itself", -1, x -> x.clash(0, 0, 0));
        call("clashes with itself", -1, x -> x.clashes(0, 0, 0, 1));
        call("clashes in 401 days", -1, x -> x.clashes(0, 1, 0, 400));
        call("roomClash what 3", -1, x -> x.roomClash(1, 0, 3));
        call("free for 0", -1, x -> x.free(1, 0, 0));
        call("free for 4321", -1, x -> x.free(1, 0, 4321));
        call("busiest of 61 days", -1, x -> x.busiest(1, 0, 60));
        call("keys backwards", -1, x -> x.keys(0, 11, 10));
        call("count backwards", -1, x -> x.count(0, 11, 10));
        call("split at 0", -1, x -> x.split(0, 0));
        call("of what 14", -2, x -> x.of(0, 14));
        call("next what 2", -1, x -> x.next(0, 0, 2));
        call("ahead what 2", -1, x -> x.ahead(0, LAST_TIME, 2));
        call("date what 5", -1, x -> x.date(0, 5));
    }

    private static void onEmpty() {
        outside();
        call("cancel", 0, x -> bit(x.cancel(0)));
        call("drop", 0, x -> bit(x.drop(0, 0)));
        call("move", 0, x -> bit(x.move(0, 0, 0)));
        call("restore", -1, x -> x.restore(0, 0));
        call("split", -1, x -> x.split(0, 1));
        call("back 0", 0, x -> bit(x.back(0)));
        call("back 1", 0, x -> bit(x.back(1)));
        call("end 1", -1, x -> x.end(1));
        call("book", -3, x -> x.book());
        sameBehind("empty", Made::empty, true);
    }

    private static void onSome() {
        outside();
        Check.says("refused calls of promises 3, 5, 10 to 12, 24, 29");
        call("end 38", -1, x -> x.end(38));
        call("cancel 3", 0, x -> bit(x.cancel(3)));
        call("drop ahead of the first key", 0, x -> bit(x.drop(0, 9)));
        call("drop behind the last key", 0, x -> bit(x.drop(0, 50)));
        call("drop a dropped one", 0, x -> bit(x.drop(0, 12)));
        call("drop where no key is", 0, x -> bit(x.drop(1, 6)));
        call("move where no key is", 0, x -> bit(x.move(1, 6, 0)));
        call("move behind the last key", 0, x -> bit(x.move(0, 50, 0)));
        call("restore where no key is", -1, x -> x.restore(1, 6));
        call("restore one that is as at first", 0, x -> x.restore(0, 14));
        call("split at the first key", -1, x -> x.split(0, 10));
        call("split behind the last key", -1, x -> x.split(0, 50));
        call("split ahead of all", -1, x -> x.split(2, 30));
        call("back 1", 0, x -> bit(x.back(1)));
        sameBehind("some", Made::some, true);
    }

    private static void onFull() {
        outside();
        Check.says("refused calls of promises 2, 3, 5, 10, 11, 24 on a full object");
        call("feed", -1, x -> x.feed(0, 0, 0));
        call("end 169", -1, x -> x.end(169));
        call("cancel 12", 0, x -> bit(x.cancel(12)));
        call("drop a seventeenth", 0, x -> bit(x.drop(0, 1)));
        call("move a seventeenth", 0, x -> bit(x.move(0, 1, 0)));
        call("drop a dropped one", 0, x -> bit(x.drop(0, 0)));
        call("split", -1, x -> x.split(0, 100));
        call("split of the last", -1, x -> x.split(11, 100));
        sameBehind("full", Made::full, true);
    }

    private static void onlyAsked() {
        Check.says("calls that only ask");
        call("told", 3, x -> x.told(0));
        call("day", 8825, x -> x.day(2024, 2, 29));
        call("date", 2024, x -> x.date(8825, 0));
        call("key", 10, x -> x.key(0, 0));
        call("keys", 40, x -> x.keys(0, 0, 36524));
        call("next", 14460, x -> x.next(0, 0, 0));
        call("ahead", 14500, x -> x.ahead(0, 14501, 0));
        call("count", 39, x -> x.count(0, 0, 36524));
        call("on", 2, x -> x.on(-1, 14400, 15840));
        call("onAt", 13, x -> Check.onAt(x, 1, 14400, 15840, 1, 1));
        call("clash", 1440 * 16 + 100, x -> x.clash(0, 1, 0));
        call("clashes", 6, x -> x.clashes(0, 1, 0, 399));
        call("roomClash", 1440 * 16 + 100, x -> x.roomClash(1, 0, 0));
        call("free", 14590, x -> x.free(1, 14460, 60));
        call("busy", 130, x -> x.busy(1, 10));
        call("busiest", 10, x -> x.busiest(1, 0, 59));
        call("period", 14, x -> x.period(1));
        call("periodOf", 146097 * 2, x -> x.periodOf(1, 2));
        call("of", 40, x -> x.of(0, 9));
        sameBehind("some", Made::some, true);
    }

    private static void booksRefused() {
        Check.says("book: the TAPE (empty then); no BOOKING comes of a FAULT, nor of NONE");
        call("a fault", -2 - (8 * 37 + 1), x -> {
            Check.put(x, Made.ON_TAPE + "#");
            return x.book();
        });
        call("161 bytes", -1, x -> Check.book(x, " ".repeat(161)));
        call("an empty tape", -3, x -> Check.book(x, ""));
        sameBehind("some", Made::some, false);
        call("a thirteenth", -1, x -> Check.book(x, Made.ON_TAPE));
        call("a thirteenth, a fault", -1, x -> Check.book(x, "#"));
        call("168 bytes", -1, x -> x.book());
        sameBehind("full", Made::full, false);
    }

    public static void main(String[] args) {
        onEmpty();
        onSome();
        onFull();
        onlyAsked();
        booksRefused();
        Check.close();
    }
}
