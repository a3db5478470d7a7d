/** Terms: the edges of the bits that tell a WIDE number. */
public final class TermsWideEdgesTest {
    public static void main(String[] args) throws IllegalAccessException {
        Cases.run(TermsWideEdgesTest.class);
    }

    static void signIsTheHighestBitAlone() {
        wide(0xBFF0000000000000L, 4, true, "-1.0");
        wide(0x3FF0000000000000L, 4, false, "1.0");
        wide(0x4000000000000000L, 4, false, "2.0");
        wide(0x7FFFFFFFFFFFFFFFL, 1, false, "NaN");
        wide(0x8000000000000000L, 3, true, "-0.0");
    }

    static void greatestEWithFOf0IsInfinite() {
        wide(0x7FF0000000000000L, 2, false, "Infinity");
        wide(0xFFF0000000000000L, 2, true, "-Infinity");
    }

    static void greatestEWithTheLeastFIsNoNumber() {
        wide(0x7FF0000000000001L, 1, false, "NaN");
        wide(0xFFF0000000000001L, 1, true, "NaN");
    }

    /** None of the bits that a long loses when it is cut to an int. */
    static void greatestEWithOnlyHighBitsOfFIsNoNumber() {
        wide(0x7FF8000000000000L, 1, false, "NaN");
        wide(0x7FF0000100000000L, 1, false, "NaN");
    }

    static void greatestEWithTheGreatestFIsNoNumber() {
        wide(0x7FFFFFFFFFFFFFFFL, 1, false, "NaN");
        wide(0xFFFFFFFFFFFFFFFFL, 1, true, "NaN");
    }

    static void oneBelowTheGreatestEIsFinite() {
        wide(0x7FE0000000000000L, 4, false, "8.98846567431158E307");
        wide(0x7FEFFFFFFFFFFFFFL, 4, false, "1.7976931348623157E308");
    }

    static void eOf0WithFOf0IsZero() {
        wide(0L, 3, false, "0.0");
        wide(0x8000000000000000L, 3, true, "-0.0");
    }

    static void eOf0WithTheLeastFIsNotZero() {
        wide(1L, 4, false, "4.9E-324");
    }

    static void eOf0WithOnlyHighBitsOfFIsNotZero() {
        wide(0x0008000000000000L, 4, false, "1.1125369292536007E-308");
        wide(0x0000000100000000L, 4, false, "2.121995791E-314");
    }

    static void eOf0WithTheGreatestF() {
        wide(0x000FFFFFFFFFFFFFL, 4, false, "2.225073858507201E-308");
    }

    static void eOf1WithFOf0ComesRightBehind() {
        wide(0x0010000000000000L, 4, false, "2.2250738585072014E-308");
    }

    static void eOf1HasTheSamePowerOfTwoAsEOf0() {
        wide(0x0010000000000001L, 4, false, "2.225073858507202E-308");
        wide(0x001FFFFFFFFFFFFFL, 4, false, "4.4501477170144023E-308");
    }

    static void eOf1075IsWhole() {
        wide(0x4330000000000000L, 4, false, "4.503599627370496E15");
        wide(0x4330000000000001L, 4, false, "4.503599627370497E15");
    }

    private static void wide(long bits, int kind, boolean minus, String text) {
        BinaryText x = new BinaryText();
        Check.wide(x, bits, text);
        Check.tells(text, x, kind, minus);
    }
}
