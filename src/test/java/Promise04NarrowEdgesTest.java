/** Promise 4: the edges of what narrow prints, and how many characters it answers. */
public final class Promise04NarrowEdgesTest {
    private static final int LONGEST = Bits.of(-1.00000555E-30f);

    public static void main(String[] args) throws IllegalAccessException {
        Cases.run(Promise04NarrowEdgesTest.class);
    }

    static void shortestTextsHave3Characters() {
        length(new BinaryText(), 0, 3);
        length(new BinaryText(), Bits.NARROW_ONE, 3);
        length(new BinaryText(), Bits.NARROW_NO_NUMBER, 3);
    }

    static void signCountsAsACharacterButNotForNoNumber() {
        length(new BinaryText(), Bits.NARROW_SIGN, 4);
        length(new BinaryText(), Bits.NARROW_SIGN | Bits.NARROW_ONE, 4);
        length(new BinaryText(), Bits.NARROW_INFINITE, 8);
        length(new BinaryText(), Bits.NARROW_SIGN | Bits.NARROW_INFINITE, 9);
        length(new BinaryText(), Bits.NARROW_SIGN | Bits.NARROW_NO_NUMBER, 3);
    }

    static void longestTextWithAnExponentHas15Characters() {
        Check.narrow(new BinaryText(), LONGEST, "-1.00000555E-30");
        length(new BinaryText(), LONGEST, 15);
    }

    static void longestPlainTextHas41Characters() {
        BinaryText x = new BinaryText();
        x.bounds(-30, 30);
        Check.narrow(x, LONGEST, "-0.00000000000000000000000000000100000555");
        length(x, LONGEST, 41);
    }

    static void longestPlainTextBeforeThePointHas33Characters() {
        BinaryText x = new BinaryText();
        x.bounds(-30, 30);
        Check.narrow(x, Bits.of(-1.5E29f), "-150000000000000000000000000000.0");
        length(x, Bits.of(-1.5E29f), 33);
    }

    static void leastAndGreatest() {
        Check.narrow(new BinaryText(), Bits.NARROW_LEAST, "1.4E-45");
        Check.narrow(new BinaryText(), Bits.NARROW_SIGN | Bits.NARROW_LEAST, "-1.4E-45");
        Check.narrow(new BinaryText(), Bits.NARROW_GREATEST, "3.4028235E38");
        Check.narrow(new BinaryText(), Bits.NARROW_SIGN | Bits.NARROW_GREATEST, "-3.4028235E38");
    }

    /** As a wide number it would be 0.10000000149011612. */
    static void neighboursAreTheNarrowOnes() {
        Check.narrow(new BinaryText(), Bits.of(0.1f), "0.1");
        Check.narrow(new BinaryText(), Bits.of(-16777216.0f), "-1.6777216E7");
    }

    static void shorterTextBehindTheLongestOne() {
        BinaryText x = new BinaryText();
        x.bounds(-30, 30);
        x.narrow(LONGEST);
        Check.narrow(x, 0, "0.0");
        x.narrow(LONGEST);
        Check.narrow(x, Bits.of(7.0f), "7.0");
        x.narrow(LONGEST);
        Check.narrow(x, Bits.NARROW_NO_NUMBER, "NaN");
    }

    static void sameBitsAgainPrintTheSame() {
        BinaryText x = new BinaryText();
        Check.narrow(x, Bits.NARROW_LEAST, "1.4E-45");
        Check.narrow(x, Bits.NARROW_LEAST, "1.4E-45");
        Check.narrow(x, Bits.NARROW_GREATEST, "3.4028235E38");
        Check.narrow(x, Bits.NARROW_LEAST, "1.4E-45");
    }

    static void behindEveryOtherPrint() {
        BinaryText x = new BinaryText();
        x.wide(Bits.WIDE_GREATEST);
        Check.narrow(x, Bits.of(0.1f), "0.1");
        x.wideHex(-1L);
        Check.narrow(x, Bits.of(0.1f), "0.1");
        x.narrowHex(Bits.NARROW_SIGN | Bits.NARROW_GREATEST);
        Check.narrow(x, Bits.of(0.1f), "0.1");
    }

    private static void length(BinaryText x, int bits, int want) {
        Check.due("narrow(0x" + Integer.toHexString(bits) + ")", x.narrow(bits), want);
    }
}
