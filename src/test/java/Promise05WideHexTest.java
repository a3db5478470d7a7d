/** Promise 5: the hexadecimal text of WIDE numbers. */
public final class Promise05WideHexTest {
    public static void main(String[] args) {
        wideHex(0L, "0x0.0p0");
        wideHex(1L << 63, "-0x0.0p0");
        wideHex(0x7FF0000000000000L, "Infinity");
        wideHex(0xFFF0000000000000L, "-Infinity");
        wideHex(0x7FF8000000000000L, "NaN");
        wideHex(-1L, "NaN");
        wideHex(1L, "0x0.0000000000001p-1022");
        wideHex(0x8008000000000000L, "-0x0.8p-1022");
        wideHex(0x000FFFFFFFFFFFFFL, "0x0.fffffffffffffp-1022");
        wideHex(0x0010000000000000L, "0x1.0p-1022");
        wideHex(0x3FF0000000000000L, "0x1.0p0");
        wideHex(0x3FE0000000000000L, "0x1.0p-1");
        wideHex(0xC008000000000000L, "-0x1.8p1");
        wideHex(0x40923456789ABCDEL, "0x1.23456789abcdep10");
        wideHex(0x43500A0000000B00L, "0x1.00a0000000bp54");
        wideHex(0x7FEFFFFFFFFFFFFFL, "0x1.fffffffffffffp1023");
        againstTheModel();
        Check.end();
    }

    private static void againstTheModel() {
        Model model = new Model();
        for (long bits : Samples.wide(2000)) {
            BinaryText x = new BinaryText();
            x.bounds(-30, 30);
            model.wideHex(bits);
            Check.wideHex(x, bits, model.text);
        }
    }

    private static void wideHex(long bits, String want) {
        Check.wideHex(new BinaryText(), bits, want);
    }
}
