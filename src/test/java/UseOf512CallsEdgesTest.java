/** "What it is": an object is used for at most 512 calls; the 512th one still answers as due. */
public final class UseOf512CallsEdgesTest {
    private static final long LONGEST = Bits.of(-1.2345678901234567E-30);
    private static final String LONGEST_TEXT = "-0.0000000000000000000000000000012345678901234567";

    public static void main(String[] args) throws IllegalAccessException {
        Cases.run(UseOf512CallsEdgesTest.class);
    }

    static void bounds512th() {
        Check.bounds(usedFor511Calls(), -30, 30, true);
        Check.bounds(usedFor511Calls(), -31, 30, false);
    }

    static void wide512th() {
        Check.due("wide", usedFor511Calls().wide(LONGEST), LONGEST_TEXT.length());
    }

    static void narrow512th() {
        Check.due("narrow", usedFor511Calls().narrow(Bits.NARROW_GREATEST), 12);
    }

    static void wideHex512th() {
        Check.due("wideHex", usedFor511Calls().wideHex(Bits.WIDE_GREATEST), 22);
    }

    static void narrowHex512th() {
        Check.due("narrowHex", usedFor511Calls().narrowHex(Bits.NARROW_GREATEST), 14);
    }

    static void characterAt512th() {
        int last = LONGEST_TEXT.length() - 1;
        Check.due("characterAt the last", usedFor511Calls().characterAt(last), (int) '7');
        Check.due("characterAt behind it", usedFor511Calls().characterAt(last + 1), -1);
    }

    static void kind512th() {
        Check.due("kind", usedFor511Calls().kind(), 4);
    }

    static void minus512th() {
        Check.due("minus", usedFor511Calls().minus(), true);
    }

    static void digits512th() {
        Check.due("digits", usedFor511Calls().digits(), 12345678901234567L);
    }

    static void tens512th() {
        Check.due("tens", usedFor511Calls().tens(), -46);
    }

    static void everyOneOf512Prints() {
        BinaryText x = new BinaryText();
        for (int call = 1; call <= 512; call++) {
            int length = Integer.toString(call).length() + ".0".length();
            Check.due("wide, call " + call, x.wide(Bits.of((double) call)), length);
        }
    }

    static void everyOneOf512RefusedBounds() {
        BinaryText x = new BinaryText();
        for (int call = 1; call <= 511; call++) {
            Check.bounds(x, -31, call, false);
        }
        Check.due("wide, call 512", x.wide(Bits.of(1.0E-4)), "1.0E-4".length());
    }

    private static BinaryText usedFor511Calls() {
        BinaryText x = new BinaryText();
        x.bounds(-30, 30);
        for (int call = 2; call < 511; call++) {
            x.wideHex(Bits.WIDE_GREATEST - call);
        }
        x.wide(LONGEST);
        return x;
    }
}
