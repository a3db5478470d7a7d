/** README.md's example, line by line: what it says that a call answers is what it answers. */
public final class ReadmeExampleTest {
    public static void main(String[] args) {
        BinaryText x = new BinaryText();
        aNewObject(x);
        decimalTexts(x);
        hexadecimalTexts(x);
        otherBounds(x);
        otherKinds(x);
        Check.end();
    }

    private static void aNewObject(BinaryText x) {
        Check.due("kind()", x.kind(), 0);
        Check.due("characterAt(0)", x.characterAt(0), -1);
    }

    private static void decimalTexts(BinaryText x) {
        Check.printed("wide", x, x.wide(Double.doubleToRawLongBits(-0.1)), "-0.1");
        Check.due("characterAt(0)", x.characterAt(0), 45);
        Check.due("characterAt(4)", x.characterAt(4), -1);
        Check.due("kind()", x.kind(), 4);
        Check.due("minus()", x.minus(), true);
        Check.due("digits()", x.digits(), 1L);
        Check.due("tens()", x.tens(), -1);
        Check.printed("narrow", x, x.narrow(Float.floatToRawIntBits(1.5E7f)), "1.5E7");
    }

    private static void hexadecimalTexts(BinaryText x) {
        int length = x.wideHex(Double.doubleToRawLongBits(0.1));
        Check.printed("wideHex", x, length, "0x1.999999999999ap-4");
        Check.due("its length", length, 20);
        length = x.narrowHex(Float.floatToRawIntBits(0.1f));
        Check.printed("narrowHex", x, length, "0x1.99999ap-4");
        Check.due("its length", length, 13);
    }

    private static void otherBounds(BinaryText x) {
        Check.due("bounds(-3, 9)", x.bounds(-3, 9), true);
        Check.printed("narrow", x, x.narrow(Float.floatToRawIntBits(1.5E7f)), "15000000.0");
        Check.due("bounds(-3, 31)", x.bounds(-3, 31), false);
    }

    private static void otherKinds(BinaryText x) {
        Check.printed("wide", x, x.wide(0x7FF0000000000000L), "Infinity");
        Check.due("kind()", x.kind(), 2);
        Check.due("digits()", x.digits(), 0L);
        Check.due("tens()", x.tens(), 0);
    }
}
