/** Promise 3: the decimal text of WIDE numbers. */
public final class Promise03WideTest {
    public static void main(String[] args) {
        named();
        edges();
        ties();
        againstTheModel();
        Check.end();
    }

    private static void named() {
        wide(0L, "0.0");
        wide(1L << 63, "-0.0");
        wide(0x7FF0000000000000L, "Infinity");
        wide(0xFFF0000000000000L, "-Infinity");
        wide(0x7FF0000000000001L, "NaN");
        wide(0x7FFFFFFFFFFFFFFFL, "NaN");
        wide(0xFFF0000000000001L, "NaN");
        wide(-1L, "NaN");
    }

    private static void edges() {
        wide(1L, "4.9E-324");
        wide(0x8000000000000001L, "-4.9E-324");
        wide(2L, "9.9E-324");
        wide(3L, "1.5E-323");
        wide(4L, "2.0E-323");
        wide(0x000FFFFFFFFFFFFFL, "2.225073858507201E-308");
        wide(0x0010000000000000L, "2.2250738585072014E-308");
        wide(0x7FEFFFFFFFFFFFFFL, "1.7976931348623157E308");
        wide(Bits.of(0.1), "0.1");
        wide(Bits.of(0.1 + 0.2), "0.30000000000000004");
        wide(Bits.of(1.0), "1.0");
        wide(Bits.of(-100.25), "-100.25");
        wide(Bits.of(2.0E-3), "0.002");
        wide(Bits.of(-9.87E-5), "-9.87E-5");
        wide(Bits.of(2.0E22), "2.0E22");
        wide(Bits.of(0x1p-44), "5.684341886080802E-14");
        wide(Bits.of(0x1p53), "9.007199254740992E15");
    }

    /** Decimals equally near to two numbers, and numbers equally near to two decimals. */
    private static void ties() {
        long below = Bits.of(1.0E23);
        wide(below, "1.0E23");
        wide(below + 1, "1.0000000000000001E23");
        wide(Bits.of(0x1p50 + 0.25), "1.1258999068426242E15");
        wide(Bits.of(0x1p50 + 0.75), "1.1258999068426248E15");
    }

    private static void againstTheModel() {
        Model model = new Model();
        for (long bits : Samples.wide(5000)) {
            BinaryText x = new BinaryText();
            model.wide(bits);
            Check.wide(x, bits, model.text);
            double number = Double.longBitsToDouble(bits);
            Check.due("the text read back", Double.parseDouble(Check.textOf(x)), number);
        }
    }

    private static void wide(long bits, String want) {
        Check.wide(new BinaryText(), bits, want);
    }
}
