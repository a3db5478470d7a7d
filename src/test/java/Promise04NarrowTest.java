/** Promise 4: the decimal text of NARROW numbers. */
public final class Promise04NarrowTest {
    public static void main(String[] args) {
        named();
        edges();
        ties();
        againstTheModel();
        Check.end();
    }

    private static void named() {
        narrow(0, "0.0");
        narrow(1 << 31, "-0.0");
        narrow(0x7F800000, "Infinity");
        narrow(0xFF800000, "-Infinity");
        narrow(0x7F800001, "NaN");
        narrow(0x7FFFFFFF, "NaN");
        narrow(0xFF800001, "NaN");
        narrow(-1, "NaN");
    }

    private static void edges() {
        narrow(1, "1.4E-45");
        narrow(0x80000001, "-1.4E-45");
        narrow(2, "2.8E-45");
        narrow(0x007FFFFF, "1.1754942E-38");
        narrow(0x00800000, "1.1754944E-38");
        narrow(0x7F7FFFFF, "3.4028235E38");
        narrow(Bits.of(0.1f), "0.1");
        narrow(Bits.of(1.0f), "1.0");
        narrow(Bits.of(-16777216f), "-1.6777216E7");
        narrow(Bits.of(3.1415927f), "3.1415927");
        narrow(Bits.of(1.0E10f), "1.0E10");
        narrow(Bits.of(0.001f), "0.001");
        narrow(Bits.of(-9.87E-5f), "-9.87E-5");
    }

    private static void ties() {
        narrow(Bits.of(2097152.25f), "2097152.2");
        narrow(Bits.of(2097152.75f), "2097152.8");
    }

    private static void againstTheModel() {
        Model model = new Model();
        for (int bits : Samples.narrow(5000)) {
            BinaryText x = new BinaryText();
            model.narrow(bits);
            Check.narrow(x, bits, model.text);
            float number = Float.intBitsToFloat(bits);
            Check.due("the text read back", Float.parseFloat(Check.textOf(x)), number);
        }
    }

    private static void narrow(int bits, String want) {
        Check.narrow(new BinaryText(), bits, want);
    }
}
