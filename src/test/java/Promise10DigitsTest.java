/** Promise 10: digits, d of the shortest decimal, no multiple of 10. */
public final class Promise10DigitsTest {
    public static void main(String[] args) {
        BinaryText x = new BinaryText();
        Check.due("digits() before a print", x.digits(), 0L);
        wide(x, 1.0, 1L);
        wide(x, -100.0, 1L);
        wide(x, 120.0, 12L);
        wide(x, 0.5, 5L);
        wide(x, 4.9E-324, 49L);
        wide(x, 9.9E-324, 99L);
        wide(x, 2.0E-323, 2L);
        wide(x, 1.7976931348623157E308, 17976931348623157L);
        wide(x, 1.0E23, 1L);
        wide(x, -0.0, 0L);
        wide(x, 1.5, 15L);
        wide(x, Double.NaN, 0L);
        wide(x, Double.NEGATIVE_INFINITY, 0L);
        narrow(x, 0.1f, 1L);
        narrow(x, 1.4E-45f, 14L);
        narrow(x, 3.4028235E38f, 34028235L);
        narrow(x, Float.NaN, 0L);
        narrow(x, 1.6777216E7f, 16777216L);
        narrow(x, 0f, 0L);
        x.wide(Bits.of(12.5));
        x.bounds(0, 1);
        Check.due("digits() behind bounds", x.digits(), 125L);
        againstTheModel();
        Check.end();
    }

    private static void wide(BinaryText x, double number, long d) {
        long bits = Bits.of(number);
        x.wide(bits);
        Check.due("digits() behind wide of " + number, x.digits(), d);
        x.narrow(0);
        x.wideHex(bits);
        Check.due("digits() behind wideHex of " + number, x.digits(), d);
    }

    private static void narrow(BinaryText x, float number, long d) {
        int bits = Bits.of(number);
        x.narrow(bits);
        Check.due("digits() behind narrow of " + number, x.digits(), d);
        x.wide(0);
        x.narrowHex(bits);
        Check.due("digits() behind narrowHex of " + number, x.digits(), d);
    }

    private static void againstTheModel() {
        Model model = new Model();
        for (long bits : Samples.wide(1000)) {
            BinaryText x = new BinaryText();
            model.wideHex(bits);
            x.wideHex(bits);
            Check.due("digits() behind wideHex(" + bits + ")", x.digits(), model.digits);
        }
        for (int bits : Samples.narrow(1000)) {
            BinaryText x = new BinaryText();
            model.narrowHex(bits);
            x.narrowHex(bits);
            Check.due("digits() behind narrowHex(" + bits + ")", x.digits(), model.digits);
        }
    }
}
