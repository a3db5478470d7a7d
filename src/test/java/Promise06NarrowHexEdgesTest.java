/** Promise 6: the edges of what narrowHex prints, and how many characters it answers. */
public final class Promise06NarrowHexEdgesTest {
    public static void main(String[] args) throws IllegalAccessException {
        Cases.run(Promise06NarrowHexEdgesTest.class);
    }

    static void shortestTextsHave3And7Characters() {
        length(Bits.NARROW_NO_NUMBER, 3);
        length(Bits.NARROW_SIGN | Bits.NARROW_NO_NUMBER, 3);
        length(0, 7);
        length(Bits.NARROW_ONE, 7);
    }

    static void signCountsAsACharacter() {
        length(Bits.NARROW_SIGN, 8);
        length(Bits.NARROW_SIGN | Bits.NARROW_ONE, 8);
        length(Bits.NARROW_INFINITE, 8);
        length(Bits.NARROW_SIGN | Bits.NARROW_INFINITE, 9);
    }

    static void longestTextHas16Characters() {
        Check.narrowHex(new BinaryText(), 0x80FFFFFF, "-0x1.fffffep-126");
        length(0x80FFFFFF, 16);
    }

    static void leastAndGreatest() {
        Check.narrowHex(new BinaryText(), Bits.NARROW_LEAST, "0x0.000002p-126");
        Check.narrowHex(new BinaryText(), Bits.NARROW_GREATEST, "0x1.fffffep127");
    }

    /** The six digits are twice f: the last one is even, and one bit of f reaches the first. */
    static void digitsAreTwiceF() {
        Check.narrowHex(new BinaryText(), 0x3F800007, "0x1.00000ep0");
        Check.narrowHex(new BinaryText(), 0x3F800008, "0x1.00001p0");
        Check.narrowHex(new BinaryText(), 0x3F880000, "0x1.1p0");
        Check.narrowHex(new BinaryText(), 0x3FC00001, "0x1.800002p0");
    }

    static void boundsHaveNoSay() {
        BinaryText x = new BinaryText();
        Check.bounds(x, 0, 1, true);
        Check.narrowHex(x, Bits.of(1000.0f), "0x1.f4p9");
        Check.bounds(x, -30, 30, true);
        Check.narrowHex(x, Bits.of(1000.0f), "0x1.f4p9");
        Check.narrowHex(x, Bits.of(0x1p-20f), "0x1.0p-20");
    }

    static void shorterTextBehindTheLongestOne() {
        BinaryText x = new BinaryText();
        x.narrowHex(0x80FFFFFF);
        Check.narrowHex(x, Bits.NARROW_ONE, "0x1.0p0");
        x.narrowHex(0x80FFFFFF);
        Check.narrowHex(x, 0, "0x0.0p0");
    }

    static void behindEveryOtherPrint() {
        BinaryText x = new BinaryText();
        x.wide(-1L);
        Check.narrowHex(x, Bits.of(0.1f), "0x1.99999ap-4");
        x.narrow(Bits.NARROW_SIGN | Bits.NARROW_GREATEST);
        Check.narrowHex(x, Bits.of(0.1f), "0x1.99999ap-4");
        x.wideHex(Bits.of(0.1));
        Check.narrowHex(x, Bits.of(0.1f), "0x1.99999ap-4");
    }

    private static void length(int bits, int want) {
        String call = "narrowHex(0x" + Integer.toHexString(bits) + ")";
        Check.due(call, new BinaryText().narrowHex(bits), want);
    }
}
