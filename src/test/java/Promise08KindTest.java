/** Promise 8: kind, of what was printed latest. */
public final class Promise08KindTest {
    private static final long[] WIDE = {
        0x7FF0000000000001L, 0x7FF0000000000000L, 0L, 1L, 0x7FEFFFFFFFFFFFFFL};
    private static final int[] NARROW = {0x7F800001, 0x7F800000, 0, 1, 0x7F7FFFFF};
    private static final int[] KINDS = {1, 2, 3, 4, 4};

    public static void main(String[] args) {
        BinaryText x = new BinaryText();
        Check.due("kind()", x.kind(), 0);
        x.bounds(-1, 1);
        x.characterAt(0);
        Check.due("kind() before a print", x.kind(), 0);
        for (int i = 0; i < KINDS.length; i++) {
            wide(x, WIDE[i], KINDS[i]);
            wide(x, WIDE[i] | 1L << 63, KINDS[i]);
            narrow(x, NARROW[i], KINDS[i]);
            narrow(x, NARROW[i] | 1 << 31, KINDS[i]);
        }
        x.wide(0L);
        x.bounds(0, 1);
        x.bounds(1, 0);
        Check.due("kind() behind bounds", x.kind(), 3);
        Check.end();
    }

    private static void wide(BinaryText x, long bits, int kind) {
        x.wide(bits);
        Check.due("kind() behind wide(" + bits + ")", x.kind(), kind);
        x.narrow(kind == 3 ? 1 : 0);
        x.wideHex(bits);
        Check.due("kind() behind wideHex(" + bits + ")", x.kind(), kind);
    }

    private static void narrow(BinaryText x, int bits, int kind) {
        x.narrow(bits);
        Check.due("kind() behind narrow(" + bits + ")", x.kind(), kind);
        x.wide(kind == 3 ? 1 : 0);
        x.narrowHex(bits);
        Check.due("kind() behind narrowHex(" + bits + ")", x.kind(), kind);
    }
}
