/** Promise 9: minus, also for NO NUMBER. */
public final class Promise09MinusTest {
    private static final long[] WIDE = {
        0L, 1L, 0x3FF0000000000000L, 0x7FEFFFFFFFFFFFFFL, 0x7FF0000000000000L,
        0x7FF0000000000001L, 0x7FFFFFFFFFFFFFFFL};
    private static final int[] NARROW = {
        0, 1, 0x3F800000, 0x7F7FFFFF, 0x7F800000, 0x7F800001, 0x7FFFFFFF};

    public static void main(String[] args) {
        BinaryText x = new BinaryText();
        Check.due("minus() before a print", x.minus(), false);
        for (long bits : WIDE) {
            long below = bits | 1L << 63;
            x.wide(below);
            Check.due("minus() behind wide(" + below + ")", x.minus(), true);
            x.wide(bits);
            Check.due("minus() behind wide(" + bits + ")", x.minus(), false);
            x.wideHex(below);
            Check.due("minus() behind wideHex(" + below + ")", x.minus(), true);
            x.wideHex(bits);
            Check.due("minus() behind wideHex(" + bits + ")", x.minus(), false);
        }
        for (int bits : NARROW) {
            int below = bits | 1 << 31;
            x.narrow(below);
            Check.due("minus() behind narrow(" + below + ")", x.minus(), true);
            x.narrow(bits);
            Check.due("minus() behind narrow(" + bits + ")", x.minus(), false);
            x.narrowHex(below);
            Check.due("minus() behind narrowHex(" + below + ")", x.minus(), true);
            x.narrowHex(bits);
            Check.due("minus() behind narrowHex(" + bits + ")", x.minus(), false);
        }
        x.wide(-1L);
        x.bounds(0, 1);
        Check.due("minus() behind bounds", x.minus(), true);
        Check.end();
    }
}
