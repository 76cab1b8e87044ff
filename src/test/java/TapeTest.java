/** Promises 1 to 4: a new object, feed, end, book with its faults. */
public final class TapeTest {
    private static final String HEAD = Texts.HEAD;

    private static void newObject() {
        BookIndex x = new BookIndex();
        for (int what = 0; what < 4; what++) {
            Check.due("new: told " + what, x.told(what), 0);
        }
        Check.due("new: of", x.of(0, 0), -2);
        Check.due("new: key", x.key(0, 0), -1);
        Check.due("new: cancel", x.cancel(0), false);
        Check.due("new: on", x.on(-1, 0, 1), 0);
        Check.due("new: free", x.free(0, 0, 1), 0);
        Check.due("NONE", BookIndex.NONE, -1);
    }

    private static void feed() {
        BookIndex x = new BookIndex();
        for (int i = 1; i <= 7; i++) {
            Check.due("feed " + i, x.feed(i, i, i), 24 * i);
        }
        Check.due("feed 8", x.feed(1, 1, 1), -1);
        Check.due("told after feed 8", x.told(1), 168);
        Check.due("end 144", x.end(144), 144);
        Check.due("feed to 168", x.feed(1, 1, 1), 168);
        Check.due("end 145", x.end(145), 145);
        Check.due("feed over 168", x.feed(1, 1, 1), -1);
        Check.due("told after refusal", x.told(1), 145);
    }

    private static void feedOrder() {
        BookIndex x = new BookIndex();
        // "book 3 a" "t 5 for " "7 once f" "rom 2000" " 1 2"
        x.feed(0x626f6f6b20332061L, 0x74203520666f7220L, 0x37206f6e63652066L);
        x.feed(0x726f6d2032303030L, 0x2031203200000000L, -1L);
        Check.due("end 36", x.end(36), 36);
        Check.due("book by bytes", x.book(), 0);
        Check.due("room by bytes", x.of(0, 0), 3);
        Check.due("minute by bytes", x.of(0, 1), 5);
        Check.due("length by bytes", x.of(0, 2), 7);
        Check.due("start by bytes", x.of(0, 5), 1);
        x.feed(-1L, 0, 0);
        Check.due("a byte of 255", x.book(), -2 - 1);
    }

    private static void end() {
        BookIndex x = new BookIndex();
        Check.due("end 0 of none", x.end(0), 0);
        Check.due("end 1 of none", x.end(1), -1);
        x.feed(0, 0, 0);
        Check.due("end 25", x.end(25), -1);
        Check.due("told 24", x.told(1), 24);
        Check.due("end -1", x.end(-1), -1);
        Check.due("end least", x.end(Integer.MIN_VALUE), -1);
        Check.due("end 24", x.end(24), 24);
        Check.due("end 7", x.end(7), 7);
        Check.due("end 8 of 7", x.end(8), -1);
        Check.due("end 0", x.end(0), 0);
        Check.due("told 0", x.told(1), 0);
    }

    private static void goodTexts() {
        Texts.good("book 0 at 0 for 1 once from 2000 1 1");
        Texts.good("book 7 at 1439 for 4320 once from 2099 12 31");
        Texts.good("book7at1439for4320once from2099 12 31until2099 12 31");
        Texts.good("book7at1439for4320every999days from2000 2 29times999");
        Texts.good("  book  0007 at 0 for 1 every 0001 weeks mon tue wed thu fri sat sun from 2000 01 01  ");
        Texts.good(HEAD + "every 1 months on 31 from 2001 2 28 times 1");
        Texts.good(HEAD + "every 999 months end 28 from 2001 2 28 until 2001 2 28");
        Texts.good(HEAD + "every 1 months nth 5 sun from 2001 2 28");
        Texts.good(HEAD + "every 1 months last mon from 2001 2 28");
        Texts.good(HEAD + "every 999 years from 2004 2 29");
        Texts.good("book 0 at 0 for 1 once from 2000 1 1" + " ".repeat(124));
    }

    private static void ends() {
        String whole = "book 1 at 0 for 1 every 1 weeks mon from 2023 2 28 until 2023 3 1";
        Texts.fault("", 0, 1);
        Texts.fault("   ", 3, 1);
        Texts.fault("book ", 5, 1);
        Texts.fault("book 1", 6, 1);
        Texts.fault("book 1 at", 9, 1);
        Texts.fault("book 1 at 0", 11, 1);
        Texts.fault("book 1 at 0 for", 15, 1);
        Texts.fault("book 1 at 0 for 1", 17, 1);
        Texts.fault("book 1 at 0 for 1 every", 23, 1);
        Texts.fault("book 1 at 0 for 1 every 1", 25, 1);
        Texts.fault("book 1 at 0 for 1 every 1 weeks", 31, 1);
        Texts.fault("book 1 at 0 for 1 every 1 weeks mon", 35, 1);
        Texts.fault(whole.substring(0, 40), 40, 1);
        Texts.fault(whole.substring(0, 45), 45, 1);
        Texts.fault(whole.substring(0, 47), 47, 1);
        Texts.fault(whole.substring(0, 56), 56, 1);
        Texts.fault(whole.substring(0, 61), 61, 1);
        Texts.fault(whole.substring(0, 63) + "  ", 65, 1);
        Texts.fault(HEAD + "once from 2000 1 1 times", 42, 1);
        Texts.fault(HEAD + "every 1 months", 32, 1);
        Texts.fault(HEAD + "every 1 months on", 35, 1);
        Texts.fault(HEAD + "every 1 months end", 36, 1);
        Texts.fault(HEAD + "every 1 months nth", 36, 1);
        Texts.fault(HEAD + "every 1 months nth 1", 38, 1);
        Texts.fault(HEAD + "every 1 months last", 37, 1);
    }

    private static void misplaced() {
        Texts.fault("once from 2000 1 1 x", 0, 1);
        Texts.fault("1 at 0 for 1 once from 2000 1 1 x", 0, 1);
        Texts.fault("bookz 1", 0, 1);
        Texts.fault("booka 1", 0, 1);
        Texts.fault("book{1", 4, 1);
        Texts.fault("book`1", 4, 1);
        Texts.fault("book/1", 4, 1);
        Texts.fault("book:1", 4, 1);
        Texts.fault("Book 1", 0, 1);
        Texts.fault("bOok 1", 0, 1);
        Texts.fault("books 1", 0, 1);
        Texts.fault("boo 1", 0, 1);
        Texts.fault("1", 0, 1);
        Texts.fault("#", 0, 1);
        Texts.fault("\0book 1", 0, 1);
        Texts.fault("book\t1", 4, 1);
        Texts.fault("book one", 5, 1);
        Texts.fault("book -1", 5, 1);
        Texts.fault("book 1#", 6, 1);
        Texts.fault("book 1 1", 7, 1);
        Texts.fault("book 12345", 5, 1);
        Texts.fault("book 00001", 5, 1);
        Texts.fault("book 1 for", 7, 1);
        Texts.fault("book 1 at 10000", 10, 1);
        Texts.fault("book 1 at 0 at", 12, 1);
        Texts.fault("book 1 at 0 for once", 16, 1);
        Texts.fault(HEAD + "twice", 18, 1);
        Texts.fault(HEAD + "oncefrom", 18, 1);
        Texts.fault(HEAD + "every days", 24, 1);
        Texts.fault(HEAD + "every 1 day", 26, 1);
        Texts.fault(HEAD + "every 1 once", 26, 1);
        Texts.fault(HEAD + "every 1 weeks from", 32, 1);
        Texts.fault(HEAD + "every 1 weeks monday", 32, 1);
        Texts.fault(HEAD + "every 1 weeks montue", 32, 1);
        Texts.fault(HEAD + "every 1 weeks ont", 32, 1);
        Texts.fault(HEAD + "every 1 weeks mo", 32, 1);
        Texts.fault(HEAD + "every 1 weeks mon 1", 36, 1);
        Texts.fault(HEAD + "every 1 months mon", 33, 1);
        Texts.fault(HEAD + "every 1 months 5", 33, 1);
        Texts.fault(HEAD + "every 1 months on mon", 36, 1);
        Texts.fault(HEAD + "every 1 months nth mon", 37, 1);
        Texts.fault(HEAD + "every 1 months nth 1 last", 39, 1);
        Texts.fault(HEAD + "every 1 months nth 1 mon tue", 43, 1);
        Texts.fault(HEAD + "every 1 months last 1", 38, 1);
        Texts.fault(HEAD + "once until", 23, 1);
        Texts.fault(HEAD + "once from 20000 1 1", 28, 1);
        Texts.fault(HEAD + "once from 2000 1 1 1", 37, 1);
        Texts.fault(HEAD + "once from 2000 1 1 from", 37, 1);
        Texts.fault(HEAD + "once from 2000 1 1 times 2 until 2000 1 2", 45, 1);
        Texts.fault(HEAD + "once from 2000 1 1 until 2000 1 2 times 2", 52, 1);
        Texts.fault(HEAD + "once from 2000 1 1 until 2000 1 2.", 51, 1);
        Texts.fault(HEAD + "once from 2000 1 1 times 10000", 43, 1);
    }

    private static void outOfBounds() {
        Texts.fault("book 8 x", 5, 2);
        Texts.fault("book 9999", 5, 2);
        Texts.fault("book 1 at 1440", 10, 2);
        Texts.fault("book 1 at 0 for 0", 16, 2);
        Texts.fault("book 1 at 0 for 4321", 16, 2);
        Texts.fault(HEAD + "every 0 days", 24, 2);
        Texts.fault(HEAD + "every 1000 days", 24, 2);
        Texts.fault(HEAD + "every 1 weeks mon tue mon", 40, 2);
        Texts.fault(HEAD + "every 1 weeks mon tue wed thu fri sat sun sun", 60, 2);
        Texts.fault(HEAD + "every 1 months on 0", 36, 2);
        Texts.fault(HEAD + "every 1 months on 32", 36, 2);
        Texts.fault(HEAD + "every 1 months end 0", 37, 2);
        Texts.fault(HEAD + "every 1 months end 29", 37, 2);
        Texts.fault(HEAD + "every 1 months nth 0 x", 37, 2);
        Texts.fault(HEAD + "every 1 months nth 6 x", 37, 2);
        Texts.fault(HEAD + "once from 1999 1 1", 28, 2);
        Texts.fault(HEAD + "once from 2100 1 1", 28, 2);
        Texts.fault(HEAD + "once from 2000 0 1", 33, 2);
        Texts.fault(HEAD + "once from 2000 13 1", 33, 2);
        Texts.fault(HEAD + "once from 2000 1 0", 35, 2);
        Texts.fault(HEAD + "once from 2000 4 31", 35, 2);
        Texts.fault(HEAD + "once from 2099 2 29", 35, 2);
        Texts.fault(HEAD + "once from 2000 1 1 times 0", 43, 2);
        Texts.fault(HEAD + "once from 2000 1 1 times 1000", 43, 2);
    }

    private static void untilAhead() {
        Texts.fault(HEAD + "once from 2023 2 28 until 2023 2 27", 44, 3);
        Texts.fault(HEAD + "once from 2023 2 28 until 2022 12 31 x", 44, 3);
        Texts.fault(HEAD + "once from 2023 2 28 until 1999 1 1", 44, 2);
        Texts.fault(HEAD + "once from 2023 2 28 until 2022 13 1", 49, 2);
        Texts.good(HEAD + "once from 2023 2 28 until 2023 2 28");
    }

    /** What stood on the tape behind its end is no part of the text. */
    private static void behindTheEnd() {
        BookIndex x = new BookIndex();
        x.feed(0x626f6f6b20202020L, 0x2020202020202020L, 0x2020202020202020L);
        x.end(4);
        Check.due("blanks behind the end", x.book(), -2 - (8 * 4 + 1));
        x.feed(0x626f6f6b20323132L, 0x3132313231323132L, 0x3132313231323132L);
        x.end(6);
        Check.due("digits behind the end", x.book(), -2 - (8 * 6 + 1));
    }

    private static void refusals() {
        BookIndex x = new BookIndex();
        String text = "book 0 at 0 for 1 once from 2000 1 1";
        Check.due("161 bytes", Check.book(x, text + " ".repeat(125)), -1);
        Check.due("tape behind 161 bytes", x.told(1), 0);
        Check.due("161 bytes, wrong ones", Check.book(x, "#".repeat(161)), -1);
        for (int i = 0; i < 12; i++) {
            Check.due("booking " + i, Check.book(x, text), i);
        }
        Check.due("a thirteenth", Check.book(x, text), -1);
        Check.due("tape behind it", x.told(1), 0);
        Check.due("a thirteenth, wrong", Check.book(x, "#"), -1);
        x.cancel(3);
        Check.due("a wrong one then", Check.book(x, "#"), -3);
        Check.due("a twelfth again", Check.book(x, text), 11);
    }

    public static void main(String[] args) {
        newObject();
        feed();
        feedOrder();
        end();
        goodTexts();
        ends();
        misplaced();
        outOfBounds();
        untilAhead();
        behindTheEnd();
        refusals();
        Check.close();
    }
}
