/** Promise 10: the edges of digits. */
public final class Promise10DigitsEdgesTest {
    public static void main(String[] args) throws IllegalAccessException {
        Cases.run(Promise10DigitsEdgesTest.class);
    }

    static void nothingPrintedHas0() {
        BinaryText x = new BinaryText();
        due("a new object", x, 0L);
        x.bounds(-30, 30);
        due("bounds", x, 0L);
    }

    static void noNumberHas0() {
        all(Bits.WIDE_INFINITE + 1, Bits.NARROW_INFINITE + 1, 0L, 0L);
        all(-1L, -1, 0L, 0L);
    }

    static void infiniteHas0() {
        all(Bits.WIDE_INFINITE, Bits.NARROW_INFINITE, 0L, 0L);
        all(Bits.WIDE_SIGN | Bits.WIDE_INFINITE, Bits.NARROW_SIGN | Bits.NARROW_INFINITE, 0L, 0L);
    }

    static void zeroHas0() {
        all(0L, 0, 0L, 0L);
        all(Bits.WIDE_SIGN, Bits.NARROW_SIGN, 0L, 0L);
    }

    static void theLeast() {
        all(Bits.WIDE_LEAST, Bits.NARROW_LEAST, 49L, 14L);
    }

    static void theGreatest() {
        all(Bits.WIDE_GREATEST, Bits.NARROW_GREATEST, 17976931348623157L, 34028235L);
    }

    static void below0ItIsAbove0() {
        all(Bits.of(-1.5), Bits.of(-1.5f), 15L, 15L);
        all(Bits.WIDE_SIGN | Bits.WIDE_GREATEST, Bits.NARROW_SIGN | Bits.NARROW_GREATEST,
                17976931348623157L, 34028235L);
    }

    static void zerosAtTheEndAreNotPartOfIt() {
        all(Bits.of(1000000.0), Bits.of(1000000.0f), 1L, 1L);
        all(Bits.of(120.0), Bits.of(120.0f), 12L, 12L);
        all(Bits.of(10.0), Bits.of(10.0f), 1L, 1L);
    }

    /** Seventeen and nine digits do not fit an int. */
    static void ofTheGreatestLength() {
        all(0x44A52D02C7E14AF7L, 0x6AE8E5E9, 50000000000000004L, 140778255L);
        all(Bits.of(0.1 + 0.2), 0x0A5CD6DB, 30000000000000004L, 106330245L);
    }

    static void behindAnotherKindItIs0Again() {
        BinaryText x = new BinaryText();
        x.wide(Bits.of(1.5));
        x.wide(0L);
        due("ZERO behind 1.5", x, 0L);
        x.narrowHex(Bits.of(1.5f));
        x.narrowHex(Bits.NARROW_INFINITE);
        due("INFINITE behind 1.5", x, 0L);
        x.wideHex(Bits.of(1.5));
        x.narrow(Bits.NARROW_NO_NUMBER);
        due("NO NUMBER behind 1.5", x, 0L);
    }

    static void boundsLeaveIt() {
        BinaryText x = new BinaryText();
        x.wide(Bits.of(1234.5));
        x.bounds(0, 1);
        due("bounds that are taken", x, 12345L);
        x.bounds(1, 0);
        due("bounds that are refused", x, 12345L);
    }

    static void sameForPlainTextAndForOneWithAnExponent() {
        BinaryText x = new BinaryText();
        x.wide(Bits.of(1234.5));
        due("the plain text", x, 12345L);
        x.bounds(0, 1);
        x.wide(Bits.of(1234.5));
        due("the text with an exponent", x, 12345L);
    }

    static void askingChangesNothing() {
        BinaryText x = Check.askedObject();
        Check.due("digits()", x.digits(), 625L);
        Check.due("digits() again", x.digits(), 625L);
        Check.isAsBeforeItWasAsked("digits()", x);
    }

    private static void all(long wide, int narrow, long ofWide, long ofNarrow) {
        BinaryText x = new BinaryText();
        x.wide(wide);
        due("wide(0x" + Long.toHexString(wide) + ")", x, ofWide);
        x = new BinaryText();
        x.wideHex(wide);
        due("wideHex(0x" + Long.toHexString(wide) + ")", x, ofWide);
        x = new BinaryText();
        x.narrow(narrow);
        due("narrow(0x" + Integer.toHexString(narrow) + ")", x, ofNarrow);
        x = new BinaryText();
        x.narrowHex(narrow);
        due("narrowHex(0x" + Integer.toHexString(narrow) + ")", x, ofNarrow);
    }

    private static void due(String behind, BinaryText x, long want) {
        Check.due("digits() behind " + behind, x.digits(), want);
    }
}
