/** Objects to begin with, and all that an object tells; both together take fewer than 512 calls. */
final class Made {
    /** On the tape of an object that is neither empty nor full; with end(37) it would be a booking. */
    static final String ON_TAPE = "book 3 at 9 for 9 once from 2010 1 10";

    private Made() {
    }

    static BookIndex empty() {
        return new BookIndex();
    }

    /** Three bookings, changes of the first two, one image, a text on the tape. */
    static BookIndex some() {
        BookIndex x = new BookIndex();
        Check.book(x, "book 1 at 60 for 90 every 1 days from 2000 1 11 times 40");
        Check.book(x, "book 1 at 100 for 30 every 2 weeks mon thu from 2000 1 5 until 2000 12 31");
        x.drop(0, 12);
        x.move(0, 13, 14500);
        x.image(0);
        x.move(1, 5, 30000);
        Check.book(x, "book 6 at 0 for 4320 every 1 months end 1 from 2000 1 1");
        Check.put(x, ON_TAPE);
        return x;
    }

    /** Twelve bookings, sixteen changes of the first, both images, no place on the tape. */
    static BookIndex full() {
        BookIndex x = new BookIndex();
        for (int i = 0; i < 12; i++) {
            Check.book(x, "book " + i % 8 + " at " + 100 * i + " for 150 every " + (i + 1) + " days from 2000 1 " + (i + 1));
            if (i == 5) {
                x.image(0);
            }
        }
        for (int i = 0; i < 16; i++) {
            if (i % 2 == 0) {
                x.drop(0, 3 * i);
            } else {
                x.move(0, 3 * i, 70000 + i);
            }
            if (i == 9) {
                x.image(1);
            }
        }
        for (int i = 0; i < 7; i++) {
            x.feed(0x2020202020202020L, 0x2020202020202020L, 0x2020202020202023L);
        }
        return x;
    }

    /** All that can be seen of the bookings, without a change. */
    private static void bookings(BookIndex x, StringBuilder s) {
        int n = x.told(0);
        s.append("bookings ").append(n).append(" rooms ").append(x.told(2)).append('\n');
        for (int b = 0; b < n; b++) {
            for (int what = 0; what <= 13; what++) {
                s.append(x.of(b, what)).append(' ');
            }
            s.append("next ").append(x.next(b, 14000, 0)).append(" count ").append(x.count(b, 0, 200)).append('\n');
        }
    }

    /** All that the object tells, its images and its first booking's changes too; it is of no use then. */
    static String told(BookIndex x, boolean tapeToo) {
        StringBuilder s = new StringBuilder();
        s.append("images ").append(x.told(3)).append('\n');
        bookings(x, s);
        if (tapeToo) {
            s.append("tape ").append(x.told(1));
            s.append(" cut ").append(x.end(160)).append(" booked ").append(x.book()).append('\n');
        }
        for (int key = 0; key <= 46; key++) {
            s.append(x.restore(0, key));
        }
        s.append('\n');
        for (int i = 1; i >= 0; i--) {
            s.append("back ").append(x.back(i)).append(' ').append(x.told(0)).append(' ');
            s.append(x.of(0, 10)).append(' ').append(x.of(0, 11)).append(' ').append(x.next(0, 14000, 0)).append('\n');
        }
        return s.toString();
    }
}
