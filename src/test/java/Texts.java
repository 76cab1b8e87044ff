/** Texts that are a booking, and texts with a fault at a place. */
final class Texts {
    /** What stands ahead of a rule. */
    static final String HEAD = "book 1 at 0 for 1 ";

    private Texts() {
    }

    /** The text is a booking, the first of a new object; the object is handed on. */
    static BookIndex good(String text) {
        BookIndex x = new BookIndex();
        Check.due("'" + text + "'", Check.book(x, text), 0);
        Check.due("bookings behind '" + text + "'", x.told(0), 1);
        Check.due("tape behind '" + text + "'", x.told(1), 0);
        return x;
    }

    static void fault(String text, int place, int kind) {
        BookIndex x = new BookIndex();
        Check.due("'" + text + "'", Check.book(x, text), -2 - (8 * place + kind));
        Check.due("bookings behind '" + text + "'", x.told(0), 0);
        Check.due("tape behind '" + text + "'", x.told(1), 0);
    }

    /** The fault is at the sign ^, which is no part of the text. */
    static void faultAt(String marked, int kind) {
        int place = marked.indexOf('^');
        fault(marked.substring(0, place) + marked.substring(place + 1), place, kind);
    }
}
