/** Arguments past the ends of what the document allows: next to them, far off, and good ones if bits were lost. */
final class Outside {
    private static final int LEAST = Integer.MIN_VALUE;
    private static final int MOST = Integer.MAX_VALUE;

    static final int[] HOLDERS = {LEAST, LEAST + 1, -8, -1, 8, 9, 256, 65536, MOST};
    static final int[] DESKS = {LEAST, LEAST + 1, -4, -1, 4, 5, 256, 65536, MOST};
    static final int[] WHATS = {LEAST, LEAST + 1, LEAST + 4, LEAST + 5, LEAST + 9, LEAST + 10, -1, 256, 65536,
        MOST - 9, MOST};
    static final long[] CENTS = {Long.MIN_VALUE, Long.MIN_VALUE + 1, -1000000000L, -1, 0, 1000000001L,
        MOST, 1L + MOST, (1L << 32) + 1, Long.MAX_VALUE};
    static final long[] TOO_FEW_CENTS = {Long.MIN_VALUE, Long.MIN_VALUE + 1, -(1L << 32) + 1, -1, 0};

    private Outside() {
    }

    /** Numbers that are none, where 1 .. count are. */
    static int[] numbers(int count) {
        return new int[] {LEAST, LEAST + 1, -count - 1, -1, 0, count + 1, count + 2, 257, 65537, MOST};
    }
}
