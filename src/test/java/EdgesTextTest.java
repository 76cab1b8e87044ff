import java.time.YearMonth;
import java.util.List;

/** Terms, part 1: the bounds of all that a text tells, and every kind and place of a fault. */
public final class EdgesTextTest {
    private static final String HEAD = Texts.HEAD;
    private static final String FROM = " from 2000 1 1";
    /** One text for each rule and each span. */
    private static final String[] WHOLE = {
        "book 1 at 2 for 3 once from 2000 1 1",
        "book 1 at 2 for 3 every 4 days from 2000 1 1 until 2001 2 3",
        "book 1 at 2 for 3 every 4 weeks tue sun mon from 2000 1 1 times 5",
        "book 1 at 2 for 3 every 4 months on 5 from 2000 1 1 until 2001 2 3",
        "book 1 at 2 for 3 every 4 months end 5 from 2000 1 1 times 6",
        "book 1 at 2 for 3 every 4 months nth 5 wed from 2000 1 1 until 2001 2 3",
        "book 1 at 2 for 3 every 4 months last thu from 2000 1 1 times 6",
        "book 1 at 2 for 3 every 4 years from 2000 1 1 until 2001 2 3",
    };

    /** A number's slot: its least and its most are taken and told, what is next to them is a fault 2. */
    private static void bounds(String before, String behind, int least, int most, int what) {
        for (int value : new int[] {least, least + 1, most - 1, most}) {
            BookIndex x = Texts.good(before + value + behind);
            Check.due("of " + what + " of '" + before + value + behind + "'", x.of(0, what), value);
        }
        for (int value : new int[] {least - 1, most + 1, 9999}) {
            if (value >= 0) {
                Texts.fault(before + value + behind, before.length(), 2);
            }
        }
        Texts.faultAt(before + "^-1" + behind, 1);
    }

    private static void roomMinuteLength() {
        Check.says("ROOM 0 to 7");
        bounds("book ", " at 0 for 1 once" + FROM, 0, 7, 0);
        Check.says("MINUTE 0 to 1439");
        bounds("book 1 at ", " for 1 once" + FROM, 0, 1439, 1);
        Check.says("LENGTH 1 to 4320");
        bounds("book 1 at 0 for ", " once" + FROM, 1, 4320, 2);
    }

    private static void ruleNumbers() {
        Check.says("N: 1 to 999");
        String[] rules = {"days", "weeks mon", "months on 1", "months end 1", "months nth 1 mon", "months last mon",
            "years"};
        for (String rule : rules) {
            bounds(HEAD + "every ", " " + rule + FROM, 1, 999, 4);
        }
        Check.says("every N months on NUMBER (1 to 31)");
        bounds(HEAD + "every 1 months on ", FROM, 1, 31, 6);
        Check.says("every N months end NUMBER (1 to 28)");
        bounds(HEAD + "every 1 months end ", FROM, 1, 28, 6);
        Check.says("every N months nth NUMBER (1 to 5) WEEKDAY");
        bounds(HEAD + "every 1 months nth ", " mon" + FROM, 1, 5, 6);
        Check.says("times: 1 to 999");
        bounds(HEAD + "every 1 days" + FROM + " times ", "", 1, 999, 9);
    }

    private static void years() {
        Check.says("DATE: year 2000 to 2099");
        Check.due("from 2000", Texts.good(HEAD + "once from 2000 1 1").of(0, 5), 0);
        Check.due("from 2099", Texts.good(HEAD + "once from 2099 12 31").of(0, 5), 36524);
        Texts.faultAt(HEAD + "once from ^1999 12 31", 2);
        Texts.faultAt(HEAD + "once from ^2100 1 1", 2);
        Texts.faultAt(HEAD + "once from ^0 1 1", 2);
        Check.due("until 2000", Texts.good(HEAD + "once" + FROM + " until 2000 1 1").of(0, 8), 0);
        Check.due("until 2099", Texts.good(HEAD + "once" + FROM + " until 2099 12 31").of(0, 8), 36524);
        Texts.faultAt(HEAD + "once" + FROM + " until ^1999 12 31", 2);
        Texts.faultAt(HEAD + "once" + FROM + " until ^2100 1 1", 2);
    }

    private static void months() {
        Check.says("DATE: month 1 to 12");
        for (String head : new String[] {HEAD + "once from 2050 ", HEAD + "once" + FROM + " until 2050 "}) {
            Texts.good(head + "1 1");
            Texts.good(head + "12 1");
            Texts.fault(head + "0 1", head.length(), 2);
            Texts.fault(head + "13 1", head.length(), 2);
        }
    }

    private static void daysOfMonths() {
        Check.says("DATE: day 1 to as many as that has");
        for (int year : new int[] {2000, 2001, 2004, 2096, 2099}) {
            for (int month = 1; month <= 12; month++) {
                int days = YearMonth.of(year, month).lengthOfMonth();
                String from = HEAD + "once from " + year + " " + month + " ";
                String until = HEAD + "once" + FROM + " until " + year + " " + month + " ";
                for (String head : new String[] {from, until}) {
                    Texts.good(head + 1);
                    Texts.good(head + days);
                    Texts.fault(head + 0, head.length(), 2);
                    Texts.fault(head + (days + 1), head.length(), 2);
                }
            }
        }
    }

    private static void until() {
        Check.says("until: not ahead of from");
        Texts.good(HEAD + "every 1 days from 2024 3 1 until 2024 3 1");
        Texts.good(HEAD + "every 1 days from 2024 3 1 until 2024 3 2");
        Check.says("FAULT 3: until ahead of from (at its year)");
        Texts.faultAt(HEAD + "every 1 days from 2024 3 1 until ^2024 2 29", 3);
        Texts.faultAt(HEAD + "every 1 days from 2024 3 1 until ^2023 12 31", 3);
        Texts.faultAt(HEAD + "every 1 days from 2099 12 31 until   ^2000 1 1  ", 3);
        Texts.faultAt(HEAD + "once from 2000 1 2 until^2000 1 1", 3);
    }

    private static void weekdays() {
        Check.says("WEEKDAY { WEEKDAY } (each once; mon tue wed thu fri sat sun)");
        String[] names = {"mon", "tue", "wed", "thu", "fri", "sat", "sun"};
        StringBuilder all = new StringBuilder();
        for (int i = 0; i < 7; i++) {
            BookIndex one = Texts.good(HEAD + "every 1 weeks " + names[i] + FROM);
            Check.due("bit of " + names[i], one.of(0, 6), 1 << i);
            BookIndex last = Texts.good(HEAD + "every 1 months last " + names[i] + FROM);
            Check.due("last " + names[i], last.of(0, 6), i);
            BookIndex nth = Texts.good(HEAD + "every 1 months nth 1 " + names[i] + FROM);
            Check.due("nth " + names[i], nth.of(0, 7), i);
            all.append(' ').append(names[i]);
        }
        Check.due("all seven", Texts.good(HEAD + "every 1 weeks" + all + FROM).of(0, 6), 127);
        Texts.faultAt(HEAD + "every 1 weeks^", 1);
        Texts.faultAt(HEAD + "every 1 weeks ^from 2000 1 1", 1);
        Check.says("FAULT 2: a WEEKDAY told twice (at it)");
        for (String name : names) {
            Texts.faultAt(HEAD + "every 1 weeks " + name + " ^" + name + FROM, 2);
            Texts.faultAt(HEAD + "every 1 weeks" + all + " ^" + name + FROM, 2);
        }
        Check.says("FAULT 1: a word that is none told here (no WEEKDAY)");
        for (String word : new String[] {"mo", "mond", "monday", "m", "nmo", "ont", "ue", "montue", "sunday", "un", "xyz"}) {
            Texts.faultAt(HEAD + "every 1 weeks ^" + word + FROM, 1);
            Texts.faultAt(HEAD + "every 1 weeks wed ^" + word + FROM, 1);
            Texts.faultAt(HEAD + "every 1 months nth 1 ^" + word + FROM, 1);
            Texts.faultAt(HEAD + "every 1 months last ^" + word + FROM, 1);
        }
        Check.says("FAULT 2: a WEEKDAY told twice (at it)");
        Texts.faultAt(HEAD + "every 1 weeks mon tue wed ^tue tue mon", 2);
    }

    private static void length() {
        Check.says("a text of at most 160 bytes");
        String text = HEAD + "once" + FROM;
        Texts.good(text + " ".repeat(159 - text.length()));
        Texts.good(text + " ".repeat(160 - text.length()));
        Texts.good(" ".repeat(160 - text.length()) + text);
        Texts.fault(" ".repeat(160), 160, 1);
        BookIndex x = new BookIndex();
        Check.due("161 bytes", Check.book(x, text + " ".repeat(161 - text.length())), -1);
        Check.due("161 blanks", Check.book(x, " ".repeat(161)), -1);
        Check.due("168 bytes", Check.book(x, text + " ".repeat(168 - text.length())), -1);
        Check.due("no booking of them", x.told(0), 0);
    }

    private static void blanks() {
        Check.says("with blanks (32) between TOKENS or not");
        Texts.good("book7at1439for4320every999months nth5sun from2099 12 31until2099 12 31");
        Texts.good("book  7   at 1439  for   4320  once   from  2099   12  31");
        for (char sign : new char[] {0, 9, 10, 13, 31, 33, 127, 128, 160, 255}) {
            Texts.faultAt("book^" + sign + "1 at 0 for 1 once" + FROM, 1);
            Texts.faultAt("^" + sign + "book 1 at 0 for 1 once" + FROM, 1);
            Texts.faultAt("book 1 at 0 for 1 once" + FROM + "^" + sign, 1);
        }
        Check.says("TOKENS: small letters, digits, as far as these go on");
        Texts.faultAt("^bookat 1", 1);
        Texts.faultAt("^b ook 1", 1);
        Texts.faultAt("book 1 at 0 for 1 ^oncefrom 2000 1 1", 1);
        Texts.faultAt("book 1 at 0 for 1 once from ^200011", 1);
        Texts.faultAt("book 1 at 0 for 1 once from 2000 11^", 1);
    }

    private static void signsNextToTokens() {
        Check.says("TOKENS: small letters, digits");
        for (char sign : new char[] {'`', '{', '/', ':', '@', '[', 'A', 'Z', '.', '-', '_'}) {
            Texts.faultAt("book^" + sign + " 1", 1);
            Texts.faultAt("book 1^" + sign + " at", 1);
            Texts.faultAt("book ^" + sign + "1 at", 1);
        }
        Texts.faultAt("^zbook 1", 1);
        Texts.faultAt("^bookz 1", 1);
        Texts.faultAt("^booka 1", 1);
        Texts.faultAt("^abook 1", 1);
        Texts.faultAt("^BOOK 1", 1);
    }

    private static void digits() {
        Check.says("FAULT 1: a NUMBER of more than 4 digits");
        Check.due("0007", Texts.good("book 0007 at 0000 for 0001 every 0999 days from 2000 0001 0031").of(0, 0), 7);
        Texts.faultAt("book ^00007 at 0 for 1 once" + FROM, 1);
        Texts.faultAt("book ^10000 at 0 for 1 once" + FROM, 1);
        Texts.faultAt("book ^99999999999999999999 at 0 for 1 once" + FROM, 1);
        Texts.faultAt("book ^4294967297 at 0 for 1 once" + FROM, 1);
        Texts.faultAt("book 1 at ^00000 for 1 once" + FROM, 1);
        Texts.faultAt("book 1 at 0 for ^00001 once" + FROM, 1);
        Texts.faultAt(HEAD + "every ^00001 days" + FROM, 1);
        Texts.faultAt(HEAD + "every 1 months on ^00001" + FROM, 1);
        Texts.faultAt(HEAD + "every 1 months end ^00001" + FROM, 1);
        Texts.faultAt(HEAD + "every 1 months nth ^00001 mon" + FROM, 1);
        Texts.faultAt(HEAD + "once from ^02000 1 1", 1);
        Texts.faultAt(HEAD + "once from 2000 ^00001 1", 1);
        Texts.faultAt(HEAD + "once from 2000 1 ^00001", 1);
        Texts.faultAt(HEAD + "once" + FROM + " until ^02000 1 1", 1);
        Texts.faultAt(HEAD + "once" + FROM + " times ^00001", 1);
    }

    private static boolean isNumber(String token) {
        return token.charAt(0) <= '9';
    }

    private static int placeOf(String[] tokens, int i) {
        int place = 0;
        for (int k = 0; k < i; k++) {
            place += tokens[k].length() + 1;
        }
        return place;
    }

    private static String with(String[] tokens, int i, String other) {
        String[] changed = tokens.clone();
        changed[i] = other;
        return String.join(" ", changed);
    }

    /** Every text is cut ahead of each of its tokens, with a blank at its end and without. */
    private static void cutShort() {
        Check.says("FAULT 1: what can't stand there (the end: how many bytes there are)");
        for (String whole : WHOLE) {
            String[] tokens = whole.split(" ");
            for (int i = 0; i < tokens.length; i++) {
                String cut = whole.substring(0, placeOf(tokens, i));
                if (tokens[i].equals("until") || tokens[i].equals("times")) {
                    Texts.good(cut);
                } else {
                    Texts.fault(cut, cut.length(), 1);
                    Texts.fault(cut.trim(), cut.trim().length(), 1);
                    Texts.fault(cut + "   ", cut.length() + 3, 1);
                }
            }
            Texts.good(whole);
        }
    }

    private static void wrongTokens() {
        for (String whole : WHOLE) {
            String[] tokens = whole.split(" ");
            for (int i = 0; i < tokens.length; i++) {
                int place = placeOf(tokens, i);
                Check.says("FAULT 1: what can't stand there (its place)");
                Texts.fault(with(tokens, i, isNumber(tokens[i]) ? "mon" : "1"), place, 1);
                Texts.fault(with(tokens, i, i == 0 ? "at" : "book"), place, 1);
                Texts.fault(with(tokens, i, "#"), place, 1);
                Check.says("FAULT 1: a word that is none told here");
                Texts.fault(with(tokens, i, "mond"), place, 1);
                Texts.fault(with(tokens, i, "x"), place, 1);
                if (isNumber(tokens[i])) {
                    Check.says("FAULT 2: a NUMBER out of its bounds");
                    Texts.fault(with(tokens, i, "9999"), place, 2);
                    Check.says("FAULT 1: a NUMBER of more than 4 digits");
                    Texts.fault(with(tokens, i, "00001"), place, 1);
                }
            }
            Check.says("FAULT 1: what can't stand there (behind a whole text)");
            Texts.faultAt(whole + " ^1", 1);
            Texts.faultAt(whole + " ^book", 1);
            Texts.faultAt(whole + " ^x", 1);
            Texts.faultAt(whole + "^#", 1);
        }
    }

    /** Every word but a weekday of several is left out: what stands behind it can't stand there. */
    private static void leftOut() {
        Check.says("FAULT 1: what can't stand there (its place), a TOKEN left out ahead of it");
        for (String whole : WHOLE) {
            String[] tokens = whole.split(" ");
            boolean several = whole.contains("weeks");
            for (int i = 0; i < tokens.length; i++) {
                boolean weekday = List.of("tue", "sun", "mon").contains(tokens[i]);
                if (!isNumber(tokens[i]) && !(several && weekday)) {
                    int place = placeOf(tokens, i);
                    String left = whole.substring(0, place) + whole.substring(Math.min(placeOf(tokens, i + 1), whole.length()));
                    Texts.fault(left, place, 1);
                    Texts.fault(left + "#", place, 1);
                    Texts.fault(left + " until 1999 1 1", place, 1);
                }
            }
        }
    }

    /** Each two tokens of a text are wrong ones: the first of them is told. */
    private static void firstAlongTheText() {
        Check.says("FAULT, the first along the text");
        for (String whole : WHOLE) {
            String[] tokens = whole.split(" ");
            for (int i = 0; i < tokens.length; i++) {
                boolean number = isNumber(tokens[i]);
                String[] wrong = with(tokens, i, number ? "9999" : "x").split(" ");
                for (int j = i + 1; j < tokens.length; j++) {
                    Texts.fault(with(wrong, j, isNumber(tokens[j]) ? "9999" : "#"), placeOf(wrong, i), number ? 2 : 1);
                }
            }
        }
        Texts.faultAt(HEAD + "once from 2001 1 1 until ^2000 1 1 times 1", 3);
        Texts.faultAt(HEAD + "once from 2001 1 1 until ^2000 1 1#", 3);
        Texts.faultAt(HEAD + "once from 2001 ^13 1 until 2000 1 1", 2);
        Texts.faultAt("book ^8 at 0 for 1 once from 2001 1 1 until 2000 1 1", 2);
        Texts.faultAt("book 1 ^8 at 0 for 1 once from 2001 1 1 until 2000 1 1", 1);
    }

    private static void leastOfOneToken() {
        Check.says("FAULT, of one TOKEN the least");
        Texts.faultAt("book ^99999 at 0 for 1 once" + FROM, 1);
        Texts.faultAt("book 1 at 0 for ^00000 once" + FROM, 1);
        Texts.faultAt(HEAD + "once from 2001 1 1 until ^1999 1 1", 2);
        Texts.faultAt(HEAD + "once from 2001 1 1 until ^01999 1 1", 1);
        Texts.faultAt(HEAD + "once from 2001 1 1 until ^02000 1 1", 1);
    }

    private static void spans() {
        Check.says("[ until DATE | times NUMBER ]");
        BookIndex bare = Texts.good(HEAD + "every 1 days from 2001 1 1");
        Check.due("no until", bare.of(0, 8), -1);
        Check.due("no times", bare.of(0, 9), -1);
        Texts.faultAt(HEAD + "once from 2001 1 1 times 2 ^until 2001 1 2", 1);
        Texts.faultAt(HEAD + "once from 2001 1 1 until 2001 1 2 ^times 2", 1);
        Texts.faultAt(HEAD + "once from 2001 1 1 times 2 ^times 2", 1);
        Texts.faultAt(HEAD + "once from 2001 1 1 until 2001 1 2 ^until 2001 1 2", 1);
        Texts.faultAt(HEAD + "once ^until 2001 1 1", 1);
        Texts.faultAt(HEAD + "once ^times 1", 1);
        Check.says("RULE: once | every N ..");
        Texts.faultAt(HEAD + "once ^every 1 days" + FROM, 1);
        Texts.faultAt(HEAD + "once ^1" + FROM, 1);
        Texts.faultAt(HEAD + "every 1 ^day" + FROM, 1);
        Texts.faultAt(HEAD + "every 1 days ^mon" + FROM, 1);
        Texts.faultAt(HEAD + "every 1 years ^on 1" + FROM, 1);
        Texts.faultAt(HEAD + "every 1 months ^from 2000 1 1", 1);
        Texts.faultAt(HEAD + "every 1 months on 1 ^mon" + FROM, 1);
        Texts.faultAt(HEAD + "every 1 months on 1 ^2" + FROM, 1);
        Texts.faultAt(HEAD + "every 1 months end 1 ^mon" + FROM, 1);
        Texts.faultAt(HEAD + "every 1 months nth 1 mon ^tue" + FROM, 1);
        Texts.faultAt(HEAD + "every 1 months last mon ^tue" + FROM, 1);
        Texts.faultAt(HEAD + "every 1 months last ^1 mon" + FROM, 1);
    }

    public static void main(String[] args) {
        roomMinuteLength();
        ruleNumbers();
        years();
        months();
        daysOfMonths();
        until();
        weekdays();
        length();
        blanks();
        signsNextToTokens();
        digits();
        cutShort();
        wrongTokens();
        leftOut();
        firstAlongTheText();
        leastOfOneToken();
        spans();
        Check.close();
    }
}
