/** Promise 7: characterAt, of what was printed latest. */
public final class Promise07CharacterAtTest {
    private static final int[] NONE = {
        Integer.MIN_VALUE, -1000, -2, -1, 63, 64, 65, 1000, Integer.MAX_VALUE};

    public static void main(String[] args) {
        BinaryText x = new BinaryText();
        every(x, "");
        x.wide(Bits.of(-1234.5678));
        every(x, "-1234.5678");
        x.narrow(Bits.of(2.5f));
        every(x, "2.5");
        x.wideHex(Bits.of(-0.1));
        every(x, "-0x1.999999999999ap-4");
        x.narrowHex(-1);
        every(x, "NaN");
        x.bounds(-30, 30);
        x.wide(Bits.of(-1.2345678901234567E-30));
        every(x, "-0.0000000000000000000000000000012345678901234567");
        x.wide(0);
        every(x, "0.0");
        Check.end();
    }

    private static void every(BinaryText x, String text) {
        for (int k = 0; k < text.length(); k++) {
            Check.due("characterAt(" + k + ") of " + text, x.characterAt(k), (int) text.charAt(k));
        }
        int behind = text.length();
        Check.due("characterAt(" + behind + ") of " + text, x.characterAt(behind), -1);
        for (int k : NONE) {
            Check.due("characterAt(" + k + ") of " + text, x.characterAt(k), -1);
        }
    }
}
