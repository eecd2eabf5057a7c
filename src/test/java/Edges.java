/** The numbers on each side of a boundary, for calls that are given any int or any long. */
final class Edges {
    /** How many values a stack has when it is empty, has one, two, one less than all, all. */
    static final int[] COUNTS = {0, 1, 2, 63, 64};
    static final int[] NO_TYPES = {Integer.MIN_VALUE, -2, -1, 4, 5, 64, 256, 65536, Integer.MAX_VALUE};
    static final int[] NO_WHATS = {Integer.MIN_VALUE, -2, -1, 3, 4, 256, 65536, Integer.MAX_VALUE};
    static final long[] LONGS = {
        Long.MIN_VALUE, Long.MIN_VALUE + 1, -0x100000000L, -0x80000001L, -0x80000000L, -1, 0, 1, 0x7FFFFFFFL,
        0x80000000L, 0xFFFFFFFFL, 0x100000000L, 0x100000001L, Long.MAX_VALUE - 1, Long.MAX_VALUE};

    /** Places from the top where a stack with so many values has none. */
    static int[] placesOutside(int count) {
        return new int[] {
            Integer.MIN_VALUE, -65, -64, -2, -1, count, count + 1, 64, 65, 256, 65536, Integer.MAX_VALUE};
    }

    /** Places from the top where it has values: the first, the last and their neighbours. */
    static int[] placesInside(int count) {
        return count == 0
            ? new int[0]
            : new int[] {0, Math.min(1, count - 1), count / 2, Math.max(count - 2, 0), count - 1};
    }

    private Edges() {
    }
}
