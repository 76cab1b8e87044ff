import java.util.ArrayList;
import java.util.List;
import java.util.regex.Matcher;
import java.util.regex.Pattern;

/** The grammar of a booking's text by another way: all tokens first, each with what may stand at it. */
final class ModelText {
    private static final Pattern TOKEN = Pattern.compile("[a-z]+|[0-9]+|[^ ]", Pattern.DOTALL);

    private final List<String> tokens = new ArrayList<>();
    private final List<Integer> places = new ArrayList<>();
    private int at = 0;
    int fault = 0;

    private static final class Fault extends RuntimeException {
        private static final long serialVersionUID = 1L;
    }

    ModelText(String text) {
        Matcher m = TOKEN.matcher(text);
        while (m.find()) {
            tokens.add(m.group());
            places.add(m.start());
        }
        tokens.add("");
        places.add(text.length());
    }

    private Fault fault(int kind, int token) {
        fault = 8 * places.get(token) + kind;
        return new Fault();
    }

    private String word(String... allowed) {
        String token = tokens.get(at);
        if (!List.of(allowed).contains(token)) {
            throw fault(1, at);
        }
        at++;
        return token;
    }

    private int number(int least, int most) {
        String token = tokens.get(at);
        if (!token.matches("[0-9]{1,4}")) {
            throw fault(1, at);
        }
        int value = Integer.parseInt(token);
        if (value < least || value > most) {
            throw fault(2, at);
        }
        at++;
        return value;
    }

    private int weekday() {
        return Model.WEEKDAYS.indexOf(word(Model.WEEKDAYS.toArray(new String[0])));
    }

    private int date() {
        int year = number(2000, 2099);
        int month = number(1, 12);
        int day = number(1, java.time.YearMonth.of(year, month).lengthOfMonth());
        return new Model().day(year, month, day);
    }

    private void rule(Model.Entry e) {
        if (word("once", "every").equals("once")) {
            return;
        }
        e.n = number(1, 999);
        switch (word("days", "weeks", "months", "years")) {
            case "days":
                e.kind = 1;
                return;
            case "years":
                e.kind = 7;
                return;
            case "weeks":
                e.kind = 2;
                do {
                    int bit = 1 << weekday();
                    if ((e.number & bit) != 0) {
                        throw fault(2, at - 1);
                    }
                    e.number |= bit;
                } while (Model.WEEKDAYS.contains(tokens.get(at)));
                return;
            default:
                e.kind = 3 + List.of("on", "end", "nth", "last").indexOf(word("on", "end", "nth", "last"));
                if (e.kind != 6) {
                    e.number = number(1, e.kind == 3 ? 31 : e.kind == 4 ? 28 : 5);
                }
                if (e.kind >= 5) {
                    e.weekday = weekday();
                }
        }
    }

    Model.Entry parse() {
        Model.Entry e = new Model.Entry();
        try {
            word("book");
            e.room = number(0, 7);
            word("at");
            e.minute = number(0, 1439);
            word("for");
            e.length = number(1, 4320);
            rule(e);
            word("from");
            e.start = date();
            String more = word("", "until", "times");
            if (more.equals("times")) {
                e.times = number(1, 999);
            } else if (more.equals("until")) {
                int year = at;
                e.until = date();
                if (e.until < e.start) {
                    throw fault(3, year);
                }
            }
            if (!more.isEmpty()) {
                word("");
            }
            return e;
        } catch (Fault f) {
            return null;
        }
    }
}
