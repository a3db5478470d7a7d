/** Promise 11: tens, t of the shortest decimal. */
public final class Promise11TensTest {
    public static void main(String[] args) {
        BinaryText x = new BinaryText();
        Check.due("tens() before a print", x.tens(), 0);
        wide(x, 1.0, 0);
        wide(x, -100.0, 2);
        wide(x, 120.0, 1);
        wide(x, 0.5, -1);
        wide(x, 4.9E-324, -325);
        wide(x, 2.0E-323, -323);
        wide(x, 1.7976931348623157E308, 292);
        wide(x, 1.0E23, 23);
        wide(x, -0.0, 0);
        wide(x, 1.5, -1);
        wide(x, Double.NaN, 0);
        wide(x, 1.0E5, 5);
        wide(x, Double.NEGATIVE_INFINITY, 0);
        narrow(x, 0.1f, -1);
        narrow(x, 1.4E-45f, -46);
        narrow(x, 3.4028235E38f, 31);
        narrow(x, Float.NaN, 0);
        narrow(x, 1.0E10f, 10);
        narrow(x, 0f, 0);
        x.wide(Bits.of(12.5));
        x.bounds(0, 1);
        Check.due("tens() behind bounds", x.tens(), -1);
        againstTheModel();
        Check.end();
    }

    private static void wide(BinaryText x, double number, int t) {
        long bits = Bits.of(number);
        x.wide(bits);
        Check.due("tens() behind wide of " + number, x.tens(), t);
        x.narrow(0);
        x.wideHex(bits);
        Check.due("tens() behind wideHex of " + number, x.tens(), t);
    }

    private static void narrow(BinaryText x, float number, int t) {
        int bits = Bits.of(number);
        x.narrow(bits);
        Check.due("tens() behind narrow of " + number, x.tens(), t);
        x.wide(0);
        x.narrowHex(bits);
        Check.due("tens() behind narrowHex of " + number, x.tens(), t);
    }

    private static void againstTheModel() {
        Model model = new Model();
        for (long bits : Samples.wide(1000)) {
            BinaryText x = new BinaryText();
            model.wideHex(bits);
            x.wideHex(bits);
            Check.due("tens() behind wideHex(" + bits + ")", x.tens(), model.tens);
        }
        for (int bits : Samples.narrow(1000)) {
            BinaryText x = new BinaryText();
            model.narrowHex(bits);
            x.narrowHex(bits);
            Check.due("tens() behind narrowHex(" + bits + ")", x.tens(), model.tens);
        }
    }
}
