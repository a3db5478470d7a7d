/** Promise 2: bounds, for all that is printed from now on. */
public final class Promise02BoundsTest {
    private static final int[] LOWS = {
        Integer.MIN_VALUE, -1000, -31, -30, -29, -3, -1, 0, 1, 2, 30, Integer.MAX_VALUE};
    private static final int[] HIGHS = {
        Integer.MIN_VALUE, -30, -1, 0, 1, 2, 7, 29, 30, 31, 1000, Integer.MAX_VALUE};
    private static final String[] NUMBERS = {"0.001", "0.01", "0.1", "1", "999", "1000", "1E29"};

    public static void main(String[] args) {
        everyPair();
        edgesOfPlainText();
        latestTextStays();
        shortestDecimalDecides();
        Check.end();
    }

    private static void everyPair() {
        for (int low : LOWS) {
            for (int high : HIGHS) {
                BinaryText x = new BinaryText();
                Model model = new Model();
                x.bounds(-2, 3);
                model.bounds(-2, 3);
                String call = "bounds(" + low + ", " + high + ")";
                Check.due(call, x.bounds(low, high), model.bounds(low, high));
                for (String number : NUMBERS) {
                    long bits = Bits.of(Double.parseDouble(number));
                    model.wide(bits);
                    Check.same(call + ", wide of " + number, x, x.wide(bits), model);
                }
            }
        }
    }

    private static void edgesOfPlainText() {
        BinaryText x = new BinaryText();
        Check.due("bounds(-30, 30)", x.bounds(-30, 30), true);
        wide(x, 1.2345678901234567E-30, "0.0000000000000000000000000000012345678901234567");
        wide(x, -1.2345678901234567E-30, "-0.0000000000000000000000000000012345678901234567");
        wide(x, 9.9E-31, "9.9E-31");
        wide(x, 9.9E29, "990000000000000000000000000000.0");
        wide(x, 1.0E30, "1.0E30");
        Check.due("bounds(0, 1)", x.bounds(0, 1), true);
        wide(x, 0.9, "9.0E-1");
        wide(x, 1.0, "1.0");
        wide(x, 9.5, "9.5");
        wide(x, 10.0, "1.0E1");
    }

    private static void latestTextStays() {
        BinaryText x = new BinaryText();
        wide(x, 1234.5, "1234.5");
        Check.due("bounds(0, 1)", x.bounds(0, 1), true);
        Check.due("the text printed before", Check.textOf(x), "1234.5");
        Check.due("bounds(1, 1)", x.bounds(1, 1), false);
        Check.due("the text printed before", Check.textOf(x), "1234.5");
        wide(x, 1234.5, "1.2345E3");
    }

    /** 1.0E23 stands for a number below 10^23. */
    private static void shortestDecimalDecides() {
        BinaryText x = new BinaryText();
        Check.due("bounds(-3, 23)", x.bounds(-3, 23), true);
        wide(x, 1.0E23, "1.0E23");
        Check.due("bounds(-3, 24)", x.bounds(-3, 24), true);
        wide(x, 1.0E23, "100000000000000000000000.0");
    }

    private static void wide(BinaryText x, double number, String want) {
        Check.printed("wide of " + number, x, x.wide(Bits.of(number)), want);
    }
}
