/** Promises 8, 9 and 27: the keys of every rule, and what a booking tells of itself. */
public final class KeysTest {
    private static final int[] NUMBERS = {1, 2, 3, 5, 7, 12, 48, 999};

    /** Every key of a rule, one after another, beside the model's. */
    private static void sameKeys(String rule, String span) {
        String text = "book 2 at 600 for 60 " + rule + " from " + span;
        BookIndex x = new BookIndex();
        Model m = new Model();
        int wrong = Check.wrongSoFar();
        Check.due(text, Check.book(x, text), 0);
        for (int i = 0; i < text.length(); i += 24) {
            byte[] bytes = text.getBytes(java.nio.charset.StandardCharsets.ISO_8859_1);
            m.feed(Check.eight(bytes, i), Check.eight(bytes, i + 8), Check.eight(bytes, i + 16));
        }
        m.end(text.length());
        m.book();
        for (int what = 0; what <= 13; what++) {
            Check.due(text + ": of " + what, x.of(0, what), m.of(0, what));
        }
        int all = m.keys(0, 0, 36524);
        Check.due(text + ": keys", x.keys(0, 0, 36524), all);
        int day = m.key(0, 0);
        for (int i = 0; i < 60 && day != -1 && wrong == Check.wrongSoFar(); i++) {
            int further = day == 36524 ? -1 : m.key(0, day + 1);
            Check.due(text + ": key at " + day, x.key(0, day), day);
            Check.due(text + ": keys up to " + day, x.keys(0, 0, day), i + 1);
            Check.due(text + ": keys from " + day, x.keys(0, day, 36524), all - i);
            if (day < 36524) {
                Check.due(text + ": key behind " + day, x.key(0, day + 1), further);
            }
            day = further;
        }
    }

    private static void everyRule() {
        String[] spans = {"2000 1 1", "2000 2 29 times 7", "2023 12 31 until 2031 1 31", "2099 10 30",
            "2004 2 29 times 999", "2001 5 31 until 2001 5 31"};
        for (String span : spans) {
            sameKeys("once", span);
            for (int n : NUMBERS) {
                String head = "every " + n + " ";
                sameKeys(head + "days", span);
                sameKeys(head + "weeks sun", span);
                sameKeys(head + "weeks wed mon sat", span);
                sameKeys(head + "weeks mon tue wed thu fri sat sun", span);
                sameKeys(head + "months on 1", span);
                sameKeys(head + "months on 30", span);
                sameKeys(head + "months on 31", span);
                sameKeys(head + "months end 1", span);
                sameKeys(head + "months end 28", span);
                sameKeys(head + "months nth 1 mon", span);
                sameKeys(head + "months nth 5 sat", span);
                sameKeys(head + "months last sun", span);
                sameKeys(head + "months last thu", span);
                sameKeys(head + "years", span);
            }
        }
    }

    private static void wrongAsked() {
        BookIndex x = new BookIndex();
        Check.book(x, "book 2 at 600 for 60 every 2 days from 2000 1 11 until 2000 1 20");
        Check.due("key of 1", x.key(1, 0), -1);
        Check.due("key of -1", x.key(-1, 0), -1);
        Check.due("key from -1", x.key(0, -1), -1);
        Check.due("key from 36525", x.key(0, 36525), -1);
        Check.due("key behind", x.key(0, 19), -1);
        Check.due("the last key", x.key(0, 18), 18);
        Check.due("keys of 1", x.keys(1, 0, 1), -1);
        Check.due("keys from -1", x.keys(0, -1, 1), -1);
        Check.due("keys to 36525", x.keys(0, 0, 36525), -1);
        Check.due("keys backwards", x.keys(0, 12, 11), -1);
        Check.due("keys of one day", x.keys(0, 12, 12), 1);
        Check.due("keys of a day off", x.keys(0, 11, 11), 0);
        x.drop(0, 12);
        Check.due("a dropped key", x.key(0, 11), 12);
        Check.due("dropped keys", x.keys(0, 0, 36524), 5);
        Check.due("of -1", x.of(-1, 0), -2);
        Check.due("of 1", x.of(1, 0), -2);
        Check.due("of what -1", x.of(0, -1), -2);
        Check.due("of what 14", x.of(0, 14), -2);
    }

    private static void noKeys() {
        BookIndex x = new BookIndex();
        Check.book(x, "book 2 at 600 for 60 every 12 months on 30 from 2001 2 1");
        Check.due("first of none", x.of(0, 12), -1);
        Check.due("last of none", x.of(0, 13), -1);
        Check.due("keys of none", x.keys(0, 0, 36524), 0);
        Check.due("key of none", x.key(0, 0), -1);
        Check.due("next of none", x.next(0, 0, 0), -1);
        Check.due("ahead of none", x.ahead(0, 52595999, 0), -1);
        Check.due("drop of none", x.drop(0, -1), false);
        Check.due("move of none", x.move(0, -1, 0), false);
        Check.due("restore of none", x.restore(0, -1), -1);
        Check.due("split of none", x.split(0, 500), -1);
        Check.due("period of none", x.period(0), 146097);
    }

    private static void told() {
        BookIndex x = new BookIndex();
        Check.book(x, "book 5 at 7 for 9 every 3 months nth 2 wed from 2000 1 3 times 4");
        int[] want = {5, 7, 9, 5, 3, 2, 2, 2, -1, 4, 1, 1, 11, 284};
        x.drop(0, 11);
        x.move(0, 102, 5);
        for (int what = 0; what < want.length; what++) {
            Check.due("of nth " + what, x.of(0, what), want[what]);
        }
        Check.book(x, "book 5 at 7 for 9 every 3 months last wed from 2000 1 3 until 2001 1 1");
        Check.due("weekday of last", x.of(1, 6), 2);
        Check.due("no weekday of nth", x.of(1, 7), -1);
        Check.due("until", x.of(1, 8), 366);
        Check.due("no times", x.of(1, 9), -1);
    }

    public static void main(String[] args) {
        everyRule();
        wrongAsked();
        noKeys();
        told();
        Check.close();
    }
}
