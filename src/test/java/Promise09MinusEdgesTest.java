/** Promise 9: the edges of minus. */
public final class Promise09MinusEdgesTest {
    public static void main(String[] args) throws IllegalAccessException {
        Cases.run(Promise09MinusEdgesTest.class);
    }

    static void nothingPrintedIsFalse() {
        BinaryText x = new BinaryText();
        Check.due("minus()", x.minus(), false);
        x.bounds(-30, 30);
        x.bounds(-31, 31);
        Check.due("minus() behind bounds", x.minus(), false);
    }

    static void signOfNoNumberCounts() {
        bothSigns(0x7FF0000000000001L, 0x7F800001);
        bothSigns(0x7FFFFFFFFFFFFFFFL, 0x7FFFFFFF);
        bothSigns(Bits.WIDE_NO_NUMBER, Bits.NARROW_NO_NUMBER);
    }

    static void signOfZeroCounts() {
        bothSigns(0L, 0);
    }

    static void signOfInfiniteCounts() {
        bothSigns(Bits.WIDE_INFINITE, Bits.NARROW_INFINITE);
    }

    static void signOfTheLeastCounts() {
        bothSigns(Bits.WIDE_LEAST, Bits.NARROW_LEAST);
    }

    static void signOfTheGreatestCounts() {
        bothSigns(Bits.WIDE_GREATEST, Bits.NARROW_GREATEST);
    }

    /** The bit next to the sign, and the one that a narrow number's sign has, are no signs. */
    static void noOtherBitIsTheSign() {
        BinaryText x = new BinaryText();
        x.wide(0x4000000000000000L);
        Check.due("minus() behind bit 62", x.minus(), false);
        x.wide(0x0000000080000000L);
        Check.due("minus() behind bit 31 of a wide one", x.minus(), false);
        x.wide(0x7FFFFFFFFFFFFFFFL);
        Check.due("minus() behind all but the sign", x.minus(), false);
        x.narrow(0x40000000);
        Check.due("minus() behind bit 30 of a narrow one", x.minus(), false);
        x.narrow(0x7FFFFFFF);
        Check.due("minus() behind all but a narrow one's sign", x.minus(), false);
    }

    static void latestCounts() {
        BinaryText x = new BinaryText();
        x.wide(-1L);
        x.narrow(0);
        Check.due("minus() behind one above", x.minus(), false);
        x.narrowHex(Bits.NARROW_SIGN);
        Check.due("minus() behind one below", x.minus(), true);
        x.wideHex(0L);
        Check.due("minus() behind one above", x.minus(), false);
    }

    static void boundsLeaveIt() {
        BinaryText x = new BinaryText();
        x.wide(-1L);
        x.bounds(0, 1);
        Check.due("minus() behind bounds that are taken", x.minus(), true);
        x.bounds(1, 0);
        Check.due("minus() behind bounds that are refused", x.minus(), true);
    }

    static void askingChangesNothing() {
        BinaryText x = Check.askedObject();
        Check.due("minus()", x.minus(), true);
        Check.due("minus() again", x.minus(), true);
        Check.isAsBeforeItWasAsked("minus()", x);
    }

    private static void bothSigns(long wide, int narrow) {
        oneSign(wide, narrow, false);
        oneSign(wide | Bits.WIDE_SIGN, narrow | Bits.NARROW_SIGN, true);
    }

    private static void oneSign(long wide, int narrow, boolean want) {
        BinaryText x = new BinaryText();
        x.wide(wide);
        Check.due("minus() behind wide(0x" + Long.toHexString(wide) + ")", x.minus(), want);
        x.wide(want ? 0L : -1L);
        x.wideHex(wide);
        Check.due("minus() behind wideHex(0x" + Long.toHexString(wide) + ")", x.minus(), want);
        x.wide(want ? 0L : -1L);
        x.narrow(narrow);
        Check.due("minus() behind narrow(0x" + Integer.toHexString(narrow) + ")", x.minus(), want);
        x.wide(want ? 0L : -1L);
        x.narrowHex(narrow);
        Check.due("minus() behind narrowHex(0x" + Integer.toHexString(narrow) + ")", x.minus(),
                want);
    }
}
