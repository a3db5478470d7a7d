/** Terms: THE TEXT and where it stands PLAIN, at the edges. */
public final class TermsTextEdgesTest {
    public static void main(String[] args) throws IllegalAccessException {
        Cases.run(TermsTextEdgesTest.class);
    }

    static void tenToLowItselfIsPlain() {
        wide(-3, 7, 1.0E-3, "0.001");
        wide(-1, 7, 0.1, "0.1");
        wide(0, 7, 1.0, "1.0");
        wide(-30, 7, 1.0E-30, "0.000000000000000000000000000001");
        narrow(-3, 7, 1.0E-3f, "0.001");
        narrow(-30, 7, 1.0E-30f, "0.000000000000000000000000000001");
    }

    static void nextBelowTenToLowIsNotPlain() {
        wide(-3, 7, Math.nextDown(1.0E-3), "9.999999999999998E-4");
        wide(-1, 7, Math.nextDown(0.1), "9.999999999999999E-2");
        wide(0, 7, Math.nextDown(1.0), "9.999999999999999E-1");
        wide(-30, 7, Math.nextDown(1.0E-30), "9.999999999999999E-31");
        narrow(-3, 7, Math.nextDown(1.0E-3f), "9.999999E-4");
        narrow(0, 7, Math.nextDown(1.0f), "9.9999994E-1");
    }

    static void tenToHighItselfIsNotPlain() {
        wide(-3, 7, 1.0E7, "1.0E7");
        wide(-3, 1, 10.0, "1.0E1");
        wide(-3, 30, 1.0E30, "1.0E30");
        narrow(-3, 7, 1.0E7f, "1.0E7");
        narrow(-3, 30, 1.0E30f, "1.0E30");
    }

    static void nextBelowTenToHighIsPlain() {
        wide(-3, 7, Math.nextDown(1.0E7), "9999999.999999998");
        wide(-3, 1, Math.nextDown(10.0), "9.999999999999998");
        wide(-3, 30, Math.nextDown(1.0E30), "999999999999999900000000000000.0");
        narrow(-3, 7, Math.nextDown(1.0E7f), "9999999.0");
        narrow(-3, 30, Math.nextDown(1.0E30f), "999999940000000000000000000000.0");
    }

    /** The numbers themselves lie below 10^LOW, their shortest decimals do not. */
    static void shortestDecimalDecidesAtLow() {
        wide(-6, 7, 1.0E-6, "0.000001");
        narrow(-2, 7, 0.01f, "0.01");
    }

    /** The numbers themselves lie below 10^HIGH, their shortest decimals do not. */
    static void shortestDecimalDecidesAtHigh() {
        wide(-3, 23, 1.0E23, "1.0E23");
        wide(-3, 24, 1.0E23, "100000000000000000000000.0");
        narrow(-3, 11, 1.0E11f, "1.0E11");
        narrow(-3, 12, 1.0E11f, "100000000000.0");
    }

    static void signDoesNotDecideBetweenTheTwo() {
        wide(-3, 7, -1.0E-3, "-0.001");
        wide(-3, 7, -Math.nextDown(1.0E-3), "-9.999999999999998E-4");
        wide(-3, 7, -1.0E7, "-1.0E7");
        wide(-3, 7, -Math.nextDown(1.0E7), "-9999999.999999998");
    }

    static void plainHasAtLeastOneDigitBeforeThePoint() {
        wide(-3, 7, 0.5, "0.5");
        wide(-3, 7, 0.012, "0.012");
        narrow(-3, 7, -0.25f, "-0.25");
    }

    static void plainHasAtLeastOneDigitBehindThePoint() {
        wide(-3, 7, 3.0, "3.0");
        wide(-3, 7, 1234567.0, "1234567.0");
        wide(-3, 7, 5000000.0, "5000000.0");
        narrow(-3, 7, -40.0f, "-40.0");
    }

    static void plainPointRightBehindTheLastDigitAndRightBeforeTheFirst() {
        wide(-3, 30, 12345678901234568.0, "12345678901234568.0");
        wide(-3, 30, 1.2345678901234567, "1.2345678901234567");
        wide(-3, 30, 0.12345678901234568, "0.12345678901234568");
    }

    static void withAnExponentThereIsAtLeastOneOtherDigit() {
        wide(-3, 7, 3.0E7, "3.0E7");
        wide(-3, 7, -3.0E-7, "-3.0E-7");
        narrow(-3, 7, 3.0E7f, "3.0E7");
    }

    static void withAnExponentThereIsNoFurtherZero() {
        wide(-3, 7, 1.5E7, "1.5E7");
        wide(-3, 7, 1.05E7, "1.05E7");
        narrow(-3, 7, 1.5E-7f, "1.5E-7");
    }

    static void exponentsNextTo0() {
        wide(0, 1, 10.0, "1.0E1");
        wide(0, 1, 99.5, "9.95E1");
        wide(0, 1, 0.5, "5.0E-1");
        wide(0, 1, 5.0, "5.0");
    }

    static void exponentsOfOneTwoAndThreeDigits() {
        wide(0, 1, 1.5E9, "1.5E9");
        wide(0, 1, 1.5E10, "1.5E10");
        wide(0, 1, 1.5E99, "1.5E99");
        wide(0, 1, 1.5E100, "1.5E100");
        wide(0, 1, 1.5E-9, "1.5E-9");
        wide(0, 1, 1.5E-10, "1.5E-10");
        wide(0, 1, 1.5E-99, "1.5E-99");
        wide(0, 1, 1.5E-100, "1.5E-100");
        wide(0, 1, 2.05E205, "2.05E205");
    }

    static void zero() {
        wide(-3, 7, 0.0, "0.0");
        wide(-3, 7, -0.0, "-0.0");
        narrow(-3, 7, 0.0f, "0.0");
        narrow(-3, 7, -0.0f, "-0.0");
    }

    static void zeroUnderTheNarrowestBounds() {
        wide(0, 1, 0.0, "0.0");
        narrow(0, 1, -0.0f, "-0.0");
    }

    static void infinite() {
        wide(-3, 7, Double.POSITIVE_INFINITY, "Infinity");
        wide(-3, 7, Double.NEGATIVE_INFINITY, "-Infinity");
        narrow(-3, 7, Float.POSITIVE_INFINITY, "Infinity");
        narrow(-3, 7, Float.NEGATIVE_INFINITY, "-Infinity");
    }

    static void noNumberHasNoMinus() {
        Check.wide(new BinaryText(), Bits.WIDE_NO_NUMBER, "NaN");
        Check.wide(new BinaryText(), Bits.WIDE_SIGN | Bits.WIDE_NO_NUMBER, "NaN");
        Check.narrow(new BinaryText(), Bits.NARROW_NO_NUMBER, "NaN");
        Check.narrow(new BinaryText(), Bits.NARROW_SIGN | Bits.NARROW_NO_NUMBER, "NaN");
    }

    private static void wide(int low, int high, double number, String text) {
        BinaryText x = new BinaryText();
        Check.bounds(x, low, high, true);
        Check.wide(x, Bits.of(number), text);
    }

    private static void narrow(int low, int high, float number, String text) {
        BinaryText x = new BinaryText();
        Check.bounds(x, low, high, true);
        Check.narrow(x, Bits.of(number), text);
    }
}
