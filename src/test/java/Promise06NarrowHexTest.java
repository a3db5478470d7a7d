/** Promise 6: the hexadecimal text of NARROW numbers. */
public final class Promise06NarrowHexTest {
    public static void main(String[] args) {
        narrowHex(0, "0x0.0p0");
        narrowHex(1 << 31, "-0x0.0p0");
        narrowHex(0x7F800000, "Infinity");
        narrowHex(0xFF800000, "-Infinity");
        narrowHex(0x7FC00000, "NaN");
        narrowHex(-1, "NaN");
        narrowHex(1, "0x0.000002p-126");
        narrowHex(0x80400000, "-0x0.8p-126");
        narrowHex(0x007FFFFF, "0x0.fffffep-126");
        narrowHex(0x00800000, "0x1.0p-126");
        narrowHex(0x3F800000, "0x1.0p0");
        narrowHex(0x3F000000, "0x1.0p-1");
        narrowHex(0xC0400000, "-0x1.8p1");
        narrowHex(0x44ABCDEF, "0x1.579bdep10");
        narrowHex(0x7F7FFFFF, "0x1.fffffep127");
        againstTheModel();
        Check.end();
    }

    private static void againstTheModel() {
        Model model = new Model();
        for (int bits : Samples.narrow(2000)) {
            BinaryText x = new BinaryText();
            x.bounds(-30, 30);
            model.narrowHex(bits);
            Check.narrowHex(x, bits, model.text);
        }
    }

    private static void narrowHex(int bits, String want) {
        Check.narrowHex(new BinaryText(), bits, want);
    }
}
