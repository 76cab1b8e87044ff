/** Promises 5 and 28 to 30: cancel, images, back, told. */
public final class ImageTest {
    private static final String TEXT = " at 5 for 10 every 1 days from 2000 1 1";

    private static BookIndex rooms(int... rooms) {
        BookIndex x = new BookIndex();
        for (int room : rooms) {
            Check.book(x, "book " + room + TEXT);
        }
        return x;
    }

    private static void cancel() {
        BookIndex x = rooms(3, 5, 7);
        x.drop(2, 9);
        Check.due("cancel 3", x.cancel(3), false);
        Check.due("cancel -1", x.cancel(-1), false);
        Check.due("cancel 1", x.cancel(1), true);
        Check.due("two are left", x.told(0), 2);
        Check.due("the first stays", x.of(0, 0), 3);
        Check.due("the one behind is one less", x.of(1, 0), 7);
        Check.due("with what was dropped", x.of(1, 10), 1);
        Check.due("none is 2", x.of(2, 0), -2);
        Check.due("cancel the last", x.cancel(1), true);
        Check.due("cancel the first", x.cancel(0), true);
        Check.due("none is left", x.cancel(0), false);
        Check.due("a new one has no drops", Check.book(x, "book 1" + TEXT), 0);
        Check.due("none of them", x.of(0, 10), 0);
        Check.due("another", Check.book(x, "book 1" + TEXT), 1);
        Check.due("another still", Check.book(x, "book 1" + TEXT), 2);
        Check.due("none of them either", x.of(1, 10) + x.of(2, 10), 0);
    }

    private static void images() {
        BookIndex x = rooms(3, 5);
        Check.due("image -1", x.image(-1), false);
        Check.due("image 2", x.image(2), false);
        Check.due("back 0 of none", x.back(0), false);
        Check.due("back 1 of none", x.back(1), false);
        Check.due("no images", x.told(3), 0);
        Check.due("image 1", x.image(1), true);
        Check.due("image 1 told", x.told(3), 2);
        x.drop(0, 4);
        x.move(1, 4, 9);
        x.split(1, 50);
        x.cancel(0);
        Check.due("image 0", x.image(0), true);
        Check.due("both told", x.told(3), 3);
        x.feed(0, 0, 0);
        Check.due("back 1", x.back(1), true);
        Check.due("tape as it was", x.told(1), 24);
        Check.due("two there are", x.told(0), 2);
        Check.due("rooms", x.told(2), 40);
        Check.due("none dropped", x.of(0, 10), 0);
        Check.due("none moved", x.of(1, 11), 0);
        Check.due("not split", x.of(1, 13), 36524);
        x.drop(0, 4);
        Check.due("back 1 again", x.back(1), true);
        Check.due("an image is not changed", x.of(0, 10), 0);
        Check.due("back 0", x.back(0), true);
        Check.due("moved as in the image", x.of(0, 11), 1);
        Check.due("split as in the image", x.of(1, 12), 50);
        Check.due("back -1", x.back(-1), false);
        Check.due("back 2", x.back(2), false);
    }

    private static void again() {
        BookIndex x = rooms();
        Check.due("an image of none", x.image(0), true);
        Check.book(x, "book 1" + TEXT);
        Check.due("back to none", x.back(0), true);
        Check.due("none there are", x.told(0), 0);
        Check.book(x, "book 2" + TEXT);
        Check.due("made anew", x.image(0), true);
        x.cancel(0);
        Check.due("back to one", x.back(0), true);
        Check.due("one there is", x.told(2), 4);
        Check.due("its keys", x.keys(0, 0, 36524), 36525);
    }

    /** What a split goes by is in an image, too. */
    private static void splitBehindAnImage() {
        BookIndex x = new BookIndex();
        Check.book(x, "book 3" + TEXT + " times 600");
        x.split(0, 100);
        x.image(0);
        x.cancel(0);
        Check.book(x, "book 4 at 5 for 10 every 9 days from 2000 1 1");
        Check.book(x, "book 4 at 5 for 10 every 9 days from 2000 1 1 until 2000 3 1");
        x.back(0);
        Check.due("the tail split", x.split(1, 400), 2);
        Check.due("its first key", x.of(1, 12), 100);
        Check.due("its times", x.of(1, 9), 300);
        Check.due("its tail's times", x.of(2, 9), 200);
        Check.due("its tail's first key", x.of(2, 12), 400);
        Check.due("the head split", x.split(0, 40), 3);
        Check.due("its times", x.of(0, 9), 40);
        Check.due("its tail's times", x.of(3, 9), 60);
    }

    private static void told() {
        BookIndex x = rooms(0, 7, 7);
        Check.due("bookings", x.told(0), 3);
        Check.due("bytes", x.told(1), 0);
        Check.due("rooms", x.told(2), 129);
        Check.due("images", x.told(3), 0);
        Check.due("told -1", x.told(-1), -1);
        Check.due("told 4", x.told(4), -1);
    }

    public static void main(String[] args) {
        cancel();
        images();
        again();
        splitBehindAnImage();
        told();
        Check.close();
    }
}
