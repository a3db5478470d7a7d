/** Terms: the edges of the bits that tell a NARROW number. */
public final class TermsNarrowEdgesTest {
    public static void main(String[] args) throws IllegalAccessException {
        Cases.run(TermsNarrowEdgesTest.class);
    }

    static void signIsTheHighestBitAlone() {
        narrow(0xBF800000, 4, true, "-1.0");
        narrow(0x3F800000, 4, false, "1.0");
        narrow(0x40000000, 4, false, "2.0");
        narrow(0x7FFFFFFF, 1, false, "NaN");
        narrow(0x80000000, 3, true, "-0.0");
    }

    static void greatestEWithFOf0IsInfinite() {
        narrow(0x7F800000, 2, false, "Infinity");
        narrow(0xFF800000, 2, true, "-Infinity");
    }

    static void greatestEWithTheLeastFIsNoNumber() {
        narrow(0x7F800001, 1, false, "NaN");
        narrow(0xFF800001, 1, true, "NaN");
    }

    static void greatestEWithOnlyTheHighestBitOfFIsNoNumber() {
        narrow(0x7FC00000, 1, false, "NaN");
    }

    static void greatestEWithTheGreatestFIsNoNumber() {
        narrow(0x7FFFFFFF, 1, false, "NaN");
        narrow(0xFFFFFFFF, 1, true, "NaN");
    }

    static void oneBelowTheGreatestEIsFinite() {
        narrow(0x7F000000, 4, false, "1.7014118E38");
        narrow(0x7F7FFFFF, 4, false, "3.4028235E38");
    }

    static void eOf0WithFOf0IsZero() {
        narrow(0, 3, false, "0.0");
        narrow(0x80000000, 3, true, "-0.0");
    }

    static void eOf0WithTheLeastFIsNotZero() {
        narrow(1, 4, false, "1.4E-45");
    }

    static void eOf0WithOnlyTheHighestBitOfFIsNotZero() {
        narrow(0x00400000, 4, false, "5.877472E-39");
    }

    static void eOf0WithTheGreatestF() {
        narrow(0x007FFFFF, 4, false, "1.1754942E-38");
    }

    static void eOf1WithFOf0ComesRightBehind() {
        narrow(0x00800000, 4, false, "1.1754944E-38");
    }

    static void eOf1HasTheSamePowerOfTwoAsEOf0() {
        narrow(0x00800001, 4, false, "1.1754945E-38");
        narrow(0x00FFFFFF, 4, false, "2.3509886E-38");
    }

    static void eOf150IsWhole() {
        narrow(0x4B000000, 4, false, "8388608.0");
        narrow(0x4B000001, 4, false, "8388609.0");
    }

    private static void narrow(int bits, int kind, boolean minus, String text) {
        BinaryText x = new BinaryText();
        Check.narrow(x, bits, text);
        Check.tells(text, x, kind, minus);
    }
}
