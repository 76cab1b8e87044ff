/** Just outside of the document's bounds, and far outside. */
final class Outside {
    static final int[] DAYS = {-1, 36525, Integer.MIN_VALUE, Integer.MAX_VALUE};
    static final int[] TIMES = {-1, 52596000, Integer.MIN_VALUE, Integer.MAX_VALUE};
    static final int[] ROOMS = {-1, 8, Integer.MIN_VALUE, Integer.MAX_VALUE};
    static final int[] IMAGES = {-1, 2, Integer.MIN_VALUE, Integer.MAX_VALUE};

    private Outside() {
    }

    /** Numbers that none of so many bookings has. */
    static int[] bookings(int there) {
        return new int[] {-1, there, 12, Integer.MIN_VALUE, Integer.MAX_VALUE};
    }

    /** Numbers outside of 0 to the last what. */
    static int[] whats(int last) {
        return new int[] {-1, last + 1, Integer.MIN_VALUE, Integer.MAX_VALUE};
    }
}
