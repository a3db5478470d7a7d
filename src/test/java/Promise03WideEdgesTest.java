/** Promise 3: the edges of what wide prints, and how many characters it answers. */
public final class Promise03WideEdgesTest {
    private static final long LONGEST = Bits.of(-1.2345678901234567E-30);

    public static void main(String[] args) throws IllegalAccessException {
        Cases.run(Promise03WideEdgesTest.class);
    }

    static void shortestTextsHave3Characters() {
        length(new BinaryText(), 0L, 3);
        length(new BinaryText(), Bits.WIDE_ONE, 3);
        length(new BinaryText(), Bits.WIDE_NO_NUMBER, 3);
    }

    static void signCountsAsACharacterButNotForNoNumber() {
        length(new BinaryText(), Bits.WIDE_SIGN, 4);
        length(new BinaryText(), Bits.WIDE_SIGN | Bits.WIDE_ONE, 4);
        length(new BinaryText(), Bits.WIDE_INFINITE, 8);
        length(new BinaryText(), Bits.WIDE_SIGN | Bits.WIDE_INFINITE, 9);
        length(new BinaryText(), Bits.WIDE_SIGN | Bits.WIDE_NO_NUMBER, 3);
    }

    static void longestTextWithAnExponentHas24Characters() {
        Check.wide(new BinaryText(), Bits.of(-2.2250738585072014E-308), "-2.2250738585072014E-308");
        length(new BinaryText(), Bits.of(-2.2250738585072014E-308), 24);
    }

    static void longestPlainTextHas49Characters() {
        BinaryText x = new BinaryText();
        x.bounds(-30, 30);
        Check.wide(x, LONGEST, "-0.0000000000000000000000000000012345678901234567");
        length(x, LONGEST, 49);
    }

    static void longestPlainTextBeforeThePointHas33Characters() {
        BinaryText x = new BinaryText();
        x.bounds(-30, 30);
        Check.wide(x, Bits.of(-1.2345678901234568E29), "-123456789012345680000000000000.0");
        length(x, Bits.of(-1.2345678901234568E29), 33);
    }

    static void leastAndGreatest() {
        Check.wide(new BinaryText(), Bits.WIDE_LEAST, "4.9E-324");
        Check.wide(new BinaryText(), Bits.WIDE_SIGN | Bits.WIDE_LEAST, "-4.9E-324");
        Check.wide(new BinaryText(), Bits.WIDE_GREATEST, "1.7976931348623157E308");
        Check.wide(new BinaryText(), Bits.WIDE_SIGN | Bits.WIDE_GREATEST,
                "-1.7976931348623157E308");
    }

    static void shorterTextBehindTheLongestOne() {
        BinaryText x = new BinaryText();
        x.bounds(-30, 30);
        x.wide(LONGEST);
        Check.wide(x, 0L, "0.0");
        x.wide(LONGEST);
        Check.wide(x, Bits.of(7.0), "7.0");
        x.wide(LONGEST);
        Check.wide(x, Bits.WIDE_NO_NUMBER, "NaN");
    }

    static void sameBitsAgainPrintTheSame() {
        BinaryText x = new BinaryText();
        Check.wide(x, Bits.WIDE_LEAST, "4.9E-324");
        Check.wide(x, Bits.WIDE_LEAST, "4.9E-324");
        Check.wide(x, Bits.WIDE_GREATEST, "1.7976931348623157E308");
        Check.wide(x, Bits.WIDE_LEAST, "4.9E-324");
    }

    static void behindEveryOtherPrint() {
        BinaryText x = new BinaryText();
        x.narrow(Bits.NARROW_GREATEST);
        Check.wide(x, Bits.of(0.1), "0.1");
        x.wideHex(Bits.WIDE_SIGN | Bits.WIDE_GREATEST);
        Check.wide(x, Bits.of(0.1), "0.1");
        x.narrowHex(-1);
        Check.wide(x, Bits.of(0.1), "0.1");
    }

    private static void length(BinaryText x, long bits, int want) {
        Check.due("wide(0x" + Long.toHexString(bits) + ")", x.wide(bits), want);
    }
}
