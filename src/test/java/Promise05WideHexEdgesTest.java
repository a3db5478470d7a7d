/** Promise 5: the edges of what wideHex prints, and how many characters it answers. */
public final class Promise05WideHexEdgesTest {
    public static void main(String[] args) throws IllegalAccessException {
        Cases.run(Promise05WideHexEdgesTest.class);
    }

    static void shortestTextsHave3And7Characters() {
        length(Bits.WIDE_NO_NUMBER, 3);
        length(Bits.WIDE_SIGN | Bits.WIDE_NO_NUMBER, 3);
        length(0L, 7);
        length(Bits.WIDE_ONE, 7);
    }

    static void signCountsAsACharacter() {
        length(Bits.WIDE_SIGN, 8);
        length(Bits.WIDE_SIGN | Bits.WIDE_ONE, 8);
        length(Bits.WIDE_INFINITE, 8);
        length(Bits.WIDE_SIGN | Bits.WIDE_INFINITE, 9);
    }

    static void longestTextHas24Characters() {
        Check.wideHex(new BinaryText(), 0x801FFFFFFFFFFFFFL, "-0x1.fffffffffffffp-1022");
        length(0x801FFFFFFFFFFFFFL, 24);
    }

    static void leastAndGreatest() {
        Check.wideHex(new BinaryText(), Bits.WIDE_LEAST, "0x0.0000000000001p-1022");
        Check.wideHex(new BinaryText(), Bits.WIDE_GREATEST, "0x1.fffffffffffffp1023");
    }

    static void boundsHaveNoSay() {
        BinaryText x = new BinaryText();
        Check.bounds(x, 0, 1, true);
        Check.wideHex(x, Bits.of(1000.0), "0x1.f4p9");
        Check.bounds(x, -30, 30, true);
        Check.wideHex(x, Bits.of(1000.0), "0x1.f4p9");
        Check.wideHex(x, Bits.of(0x1p-20), "0x1.0p-20");
    }

    static void shorterTextBehindTheLongestOne() {
        BinaryText x = new BinaryText();
        x.wideHex(0x801FFFFFFFFFFFFFL);
        Check.wideHex(x, Bits.WIDE_ONE, "0x1.0p0");
        x.wideHex(0x801FFFFFFFFFFFFFL);
        Check.wideHex(x, 0L, "0x0.0p0");
    }

    static void behindEveryOtherPrint() {
        BinaryText x = new BinaryText();
        x.wide(Bits.WIDE_SIGN | Bits.WIDE_GREATEST);
        Check.wideHex(x, Bits.of(0.1), "0x1.999999999999ap-4");
        x.narrow(-1);
        Check.wideHex(x, Bits.of(0.1), "0x1.999999999999ap-4");
        x.narrowHex(Bits.of(0.1f));
        Check.wideHex(x, Bits.of(0.1), "0x1.999999999999ap-4");
    }

    private static void length(long bits, int want) {
        String call = "wideHex(0x" + Long.toHexString(bits) + ")";
        Check.due(call, new BinaryText().wideHex(bits), want);
    }
}
