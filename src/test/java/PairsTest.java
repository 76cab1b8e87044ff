import java.util.ArrayList;
import java.util.Collections;
import java.util.List;
import java.util.Random;

/** Promises 18 to 20 beside the model: rules that seldom meet, their clashes spoilt one after the other. */
public final class PairsTest {
    private final Random random;
    private final BookIndex x = new BookIndex();
    private final Model m = new Model();
    private final String run;

    private PairsTest(long seed) {
        random = new Random(seed);
        run = "run " + seed + ": ";
    }

    private int every() {
        int[] most = {3, 15, 60, 300};
        return 1 + random.nextInt(most[random.nextInt(most.length)]);
    }

    private String weekdays() {
        List<String> names = new ArrayList<>(Model.WEEKDAYS);
        Collections.shuffle(names, random);
        return String.join(" ", names.subList(0, 1 + random.nextInt(7)));
    }

    private String rule() {
        String head = "every " + every();
        String weekday = Model.WEEKDAYS.get(random.nextInt(7));
        switch (random.nextInt(10)) {
            case 0:
                return "once";
            case 1:
            case 2:
                return head + " days";
            case 3:
            case 4:
                return head + " weeks " + weekdays();
            case 5:
                return head + " months on " + (1 + random.nextInt(31));
            case 6:
                return head + " months end " + (1 + random.nextInt(28));
            case 7:
                return head + " months nth " + (1 + random.nextInt(5)) + " " + weekday;
            case 8:
                return head + " months last " + weekday;
            default:
                return "every " + (1 + random.nextInt(6)) + " years";
        }
    }

    private String text() {
        int[] minutes = {0, 1439, 720, random.nextInt(1440), random.nextInt(1440)};
        int[] lengths = {1 + random.nextInt(5), 1 + random.nextInt(300), 4320 - random.nextInt(3)};
        int year = random.nextInt(3) == 0 ? 2000 + random.nextInt(99) : 2000 + random.nextInt(5);
        String text = "book 0 at " + minutes[random.nextInt(minutes.length)]
                + " for " + lengths[random.nextInt(lengths.length)] + " " + rule()
                + " from " + year + " " + (1 + random.nextInt(12)) + " " + (1 + random.nextInt(28));
        switch (random.nextInt(6)) {
            case 0:
                return text + " times " + (1 + random.nextInt(999));
            case 1:
                return text + " until " + Math.min(2099, year + 1 + random.nextInt(60)) + " 5 5";
            default:
                return text;
        }
    }

    private void bookBoth(String text) {
        byte[] bytes = text.getBytes(java.nio.charset.StandardCharsets.ISO_8859_1);
        for (int i = 0; i < bytes.length; i += 24) {
            m.feed(Check.eight(bytes, i), Check.eight(bytes, i + 8), Check.eight(bytes, i + 16));
        }
        m.end(bytes.length);
        Check.due(run + text, Check.book(x, text), m.book());
    }

    private int booking() {
        return random.nextInt(m.told(0));
    }

    /** Changes an occurrence of the first clash of two; where there is none, any one. */
    private void spoil() {
        int b = booking();
        int at = m.clash(b, booking(), random.nextBoolean() ? 0 : random.nextInt(Model.LAST_TIME));
        int key = at == -1 ? m.key(b, random.nextInt(Model.LAST_DAY))
                : random.nextBoolean() ? m.next(b, at, 1) : m.ahead(b, Math.min(at + 1, Model.LAST_TIME), 1);
        if (key == -1) {
            return;
        }
        if (random.nextInt(3) > 0) {
            Check.due(run + "drop " + b + " " + key, x.drop(b, key), m.drop(b, key));
            return;
        }
        int near = 1440 * key + random.nextInt(9000) - 4500;
        int to = random.nextBoolean() ? Math.max(0, Math.min(Model.LAST_TIME, near)) : random.nextInt(Model.LAST_TIME);
        Check.due(run + "move " + b + " " + key + " " + to, x.move(b, key, to), m.move(b, key, to));
    }

    private void askPair() {
        int one = booking();
        int other = booking();
        int time = random.nextBoolean() ? 0 : random.nextInt(Model.LAST_TIME);
        int at = m.clash(one, other, time);
        Check.due(run + "clash " + one + " " + other + " " + time, x.clash(one, other, time), at);
        int from = at == -1 ? random.nextInt(Model.LAST_DAY) : at / 1440;
        int to = Math.min(Model.LAST_DAY, from + random.nextInt(400));
        Check.due(run + "clashes " + one + " " + other + " " + from + " " + to, x.clashes(one, other, from, to),
                m.clashes(one, other, from, to));
        for (int t = at; t <= at + 1 && at != -1 && t <= Model.LAST_TIME; t++) {
            Check.due(run + "clash " + one + " " + other + " " + t, x.clash(one, other, t), m.clash(one, other, t));
        }
    }

    private void askRoom() {
        int time = random.nextBoolean() ? 0 : random.nextInt(Model.LAST_TIME);
        for (int what = 0; what < 3; what++) {
            Check.due(run + "roomClash 0 " + time + " " + what, x.roomClash(0, time, what), m.roomClash(0, time, what));
        }
    }

    private void goOn() {
        int bookings = 2 + random.nextInt(3);
        for (int i = 0; i < bookings; i++) {
            bookBoth(text());
        }
        int changes = random.nextInt(4) == 0 ? 0 : random.nextInt(40);
        for (int i = 0; i < changes; i++) {
            spoil();
        }
        if (random.nextInt(4) == 0) {
            int b = booking();
            int day = random.nextInt(Model.LAST_DAY);
            Check.due(run + "split " + b + " " + day, x.split(b, day), m.split(b, day));
        }
        for (int i = 0; i < 12; i++) {
            askPair();
        }
        askRoom();
        askRoom();
    }

    public static void main(String[] args) {
        int runs = args.length > 0 ? Integer.parseInt(args[0]) : 300;
        long first = args.length > 1 ? Long.parseLong(args[1]) : 1;
        for (long seed = first; seed < first + runs && Check.wrongSoFar() == 0; seed++) {
            new PairsTest(seed).goOn();
        }
        Check.close();
    }
}
