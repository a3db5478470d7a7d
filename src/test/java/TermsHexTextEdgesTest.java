/** Terms: THE HEXADECIMAL TEXT, at the edges. */
public final class TermsHexTextEdgesTest {
    public static void main(String[] args) throws IllegalAccessException {
        Cases.run(TermsHexTextEdgesTest.class);
    }

    static void eOf0BeginsWith0() {
        wideHex(Bits.WIDE_GREATEST_OF_E_0, "0x0.fffffffffffffp-1022");
        narrowHex(Bits.NARROW_GREATEST_OF_E_0, "0x0.fffffep-126");
    }

    static void eOf1BeginsWith1() {
        wideHex(Bits.WIDE_LEAST_OF_E_1, "0x1.0p-1022");
        narrowHex(Bits.NARROW_LEAST_OF_E_1, "0x1.0p-126");
    }

    static void below0ThereIsAMinus() {
        wideHex(Bits.WIDE_SIGN | 1L, "-0x0.0000000000001p-1022");
        wideHex(Bits.of(-1.0), "-0x1.0p0");
        narrowHex(Bits.NARROW_SIGN | 1, "-0x0.000002p-126");
        narrowHex(Bits.of(-1.0f), "-0x1.0p0");
    }

    static void fOf0LeavesOneDigit() {
        wideHex(Bits.WIDE_ONE, "0x1.0p0");
        narrowHex(Bits.NARROW_ONE, "0x1.0p0");
    }

    static void leastFHasAllDigits() {
        wideHex(1L, "0x0.0000000000001p-1022");
        wideHex(Bits.WIDE_ONE + 1, "0x1.0000000000001p0");
        narrowHex(1, "0x0.000002p-126");
        narrowHex(Bits.NARROW_ONE + 1, "0x1.000002p0");
    }

    static void greatestFHasAllDigits() {
        wideHex(Bits.WIDE_ONE - 1, "0x1.fffffffffffffp-1");
        narrowHex(Bits.NARROW_ONE - 1, "0x1.fffffep-1");
    }

    static void highestBitOfFLeavesOneDigit() {
        wideHex(0x0008000000000000L, "0x0.8p-1022");
        wideHex(0x3FF8000000000000L, "0x1.8p0");
        narrowHex(0x00400000, "0x0.8p-126");
        narrowHex(0x3FC00000, "0x1.8p0");
    }

    static void zerosInsideStayThoseAtTheEndGo() {
        wideHex(0x3FF00A000B000000L, "0x1.00a000bp0");
        wideHex(0x3FF0000000000010L, "0x1.000000000001p0");
        narrowHex(0x3F802008, "0x1.00401p0");
        narrowHex(0x3F808000, "0x1.01p0");
    }

    static void everyDigitFrom0ToF() {
        wideHex(0x3FF0123456789ABCL, "0x1.0123456789abcp0");
        wideHex(0x3FFFEDCBA9876543L, "0x1.fedcba9876543p0");
        narrowHex(0x3F80F731, "0x1.01ee62p0");
        narrowHex(0x3FD5E6F7, "0x1.abcdeep0");
    }

    static void exponentsNextTo0() {
        wideHex(Bits.of(0.5), "0x1.0p-1");
        wideHex(Bits.of(1.0), "0x1.0p0");
        wideHex(Bits.of(2.0), "0x1.0p1");
        narrowHex(Bits.of(0.5f), "0x1.0p-1");
        narrowHex(Bits.of(1.0f), "0x1.0p0");
        narrowHex(Bits.of(2.0f), "0x1.0p1");
    }

    static void exponentsOfOneToFourDigits() {
        wideHex(Bits.of(0x1p9), "0x1.0p9");
        wideHex(Bits.of(0x1p10), "0x1.0p10");
        wideHex(Bits.of(0x1p-99), "0x1.0p-99");
        wideHex(Bits.of(0x1p100), "0x1.0p100");
        wideHex(Bits.of(0x1p-999), "0x1.0p-999");
        wideHex(Bits.of(0x1p1000), "0x1.0p1000");
        narrowHex(Bits.of(0x1p-9f), "0x1.0p-9");
        narrowHex(Bits.of(0x1p-100f), "0x1.0p-100");
    }

    static void greatestExponent() {
        wideHex(Bits.WIDE_GREATEST, "0x1.fffffffffffffp1023");
        narrowHex(Bits.NARROW_GREATEST, "0x1.fffffep127");
    }

    static void eOf0HasTheExponentOfEOf1() {
        wideHex(0x000FF00000000000L, "0x0.ffp-1022");
        wideHex(0x001FF00000000000L, "0x1.ffp-1022");
        wideHex(0x0020000000000000L, "0x1.0p-1021");
        narrowHex(0x007F8000, "0x0.ffp-126");
        narrowHex(0x00FF8000, "0x1.ffp-126");
        narrowHex(0x01000000, "0x1.0p-125");
    }

    static void zero() {
        wideHex(0L, "0x0.0p0");
        wideHex(Bits.WIDE_SIGN, "-0x0.0p0");
        narrowHex(0, "0x0.0p0");
        narrowHex(Bits.NARROW_SIGN, "-0x0.0p0");
    }

    static void infinite() {
        wideHex(Bits.WIDE_INFINITE, "Infinity");
        wideHex(Bits.WIDE_SIGN | Bits.WIDE_INFINITE, "-Infinity");
        narrowHex(Bits.NARROW_INFINITE, "Infinity");
        narrowHex(Bits.NARROW_SIGN | Bits.NARROW_INFINITE, "-Infinity");
    }

    static void noNumberHasNoMinus() {
        wideHex(Bits.WIDE_INFINITE + 1, "NaN");
        wideHex(-1L, "NaN");
        narrowHex(Bits.NARROW_INFINITE + 1, "NaN");
        narrowHex(-1, "NaN");
    }

    private static void wideHex(long bits, String text) {
        Check.wideHex(new BinaryText(), bits, text);
    }

    private static void narrowHex(int bits, String text) {
        Check.narrowHex(new BinaryText(), bits, text);
    }
}
