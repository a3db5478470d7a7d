/** Promise 11: the edges of tens. */
public final class Promise11TensEdgesTest {
    public static void main(String[] args) throws IllegalAccessException {
        Cases.run(Promise11TensEdgesTest.class);
    }

    static void nothingPrintedHas0() {
        BinaryText x = new BinaryText();
        due("a new object", x, 0);
        x.bounds(-30, 30);
        due("bounds", x, 0);
    }

    static void noNumberHas0() {
        all(Bits.WIDE_INFINITE + 1, Bits.NARROW_INFINITE + 1, 0, 0);
        all(-1L, -1, 0, 0);
    }

    static void infiniteHas0() {
        all(Bits.WIDE_INFINITE, Bits.NARROW_INFINITE, 0, 0);
        all(Bits.WIDE_SIGN | Bits.WIDE_INFINITE, Bits.NARROW_SIGN | Bits.NARROW_INFINITE, 0, 0);
    }

    static void zeroHas0() {
        all(0L, 0, 0, 0);
        all(Bits.WIDE_SIGN, Bits.NARROW_SIGN, 0, 0);
    }

    static void theLeastThereIs() {
        all(Bits.WIDE_LEAST, Bits.NARROW_LEAST, -325, -46);
        all(Bits.WIDE_SIGN | 2L, Bits.NARROW_SIGN | 2, -325, -46);
    }

    static void theGreatestThereIs() {
        all(Bits.of(1.0E308), Bits.of(1.0E38f), 308, 38);
        all(Bits.of(-1.0E308), Bits.of(-1.0E38f), 308, 38);
    }

    static void ofTheGreatestNumber() {
        all(Bits.WIDE_GREATEST, Bits.NARROW_GREATEST, 292, 31);
    }

    static void nextTo0() {
        all(Bits.of(0.1), Bits.of(0.1f), -1, -1);
        all(Bits.of(1.0), Bits.of(1.0f), 0, 0);
        all(Bits.of(9.0), Bits.of(9.0f), 0, 0);
        all(Bits.of(10.0), Bits.of(10.0f), 1, 1);
        all(Bits.of(11.0), Bits.of(11.0f), 0, 0);
    }

    static void zerosAtTheEndCount() {
        all(Bits.of(120.0), Bits.of(120.0f), 1, 1);
        all(Bits.of(1000000.0), Bits.of(1000000.0f), 6, 6);
        all(4L, 14, -323, -44);
    }

    static void behindAnotherKindItIs0Again() {
        BinaryText x = new BinaryText();
        x.wide(Bits.of(1.5));
        x.wide(0L);
        due("ZERO behind 1.5", x, 0);
        x.narrowHex(Bits.of(1.5f));
        x.narrowHex(Bits.NARROW_INFINITE);
        due("INFINITE behind 1.5", x, 0);
        x.wideHex(Bits.of(1.5));
        x.narrow(Bits.NARROW_NO_NUMBER);
        due("NO NUMBER behind 1.5", x, 0);
    }

    static void boundsLeaveIt() {
        BinaryText x = new BinaryText();
        x.wide(Bits.of(1234.5));
        x.bounds(0, 1);
        due("bounds that are taken", x, -1);
        x.bounds(1, 0);
        due("bounds that are refused", x, -1);
    }

    static void sameForPlainTextAndForOneWithAnExponent() {
        BinaryText x = new BinaryText();
        x.wide(Bits.of(1234.5));
        due("the plain text", x, -1);
        x.bounds(0, 1);
        x.wide(Bits.of(1234.5));
        due("the text with an exponent", x, -1);
    }

    static void askingChangesNothing() {
        BinaryText x = Check.askedObject();
        Check.due("tens()", x.tens(), -1);
        Check.due("tens() again", x.tens(), -1);
        Check.isAsBeforeItWasAsked("tens()", x);
    }

    private static void all(long wide, int narrow, int ofWide, int ofNarrow) {
        BinaryText x = new BinaryText();
        x.wide(wide);
        due("wide(0x" + Long.toHexString(wide) + ")", x, ofWide);
        x = new BinaryText();
        x.wideHex(wide);
        due("wideHex(0x" + Long.toHexString(wide) + ")", x, ofWide);
        x = new BinaryText();
        x.narrow(narrow);
        due("narrow(0x" + Integer.toHexString(narrow) + ")", x, ofNarrow);
        x = new BinaryText();
        x.narrowHex(narrow);
        due("narrowHex(0x" + Integer.toHexString(narrow) + ")", x, ofNarrow);
    }

    private static void due(String behind, BinaryText x, int want) {
        Check.due("tens() behind " + behind, x.tens(), want);
    }
}
