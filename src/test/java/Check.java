/** Counts the answers of one test that are not as due, and ends the test. */
final class Check {
    private static int wrong = 0;
    private static int looked = 0;

    private Check() {
    }

    static void due(String call, Object got, Object want) {
        looked++;
        if (!got.equals(want)) {
            wrong(call + " answered " + got + ", due is " + want);
        }
    }

    static void wrong(String what) {
        wrong++;
        System.out.println(what);
    }

    static int wrongSoFar() {
        return wrong;
    }

    static int lookedSoFar() {
        return looked;
    }

    static String textOf(BinaryText x) {
        StringBuilder text = new StringBuilder();
        int code = x.characterAt(0);
        for (int k = 1; k < 100 && code >= 0; k++) {
            text.append((char) code);
            code = x.characterAt(k);
        }
        return text.toString();
    }

    /** What was printed latest, with the answer of the call that printed it. */
    static void printed(String call, BinaryText x, int length, String want) {
        due(call, length, want.length());
        due(call + ", its text", textOf(x), want);
    }

    static void same(String call, BinaryText x, int length, Model model) {
        printed(call, x, length, model.text);
        tells(call, x, model.kind, model.minus);
        decimal(call, x, model.digits, model.tens);
    }

    static void wide(BinaryText x, long bits, String want) {
        printed("wide(0x" + Long.toHexString(bits) + ")", x, x.wide(bits), want);
    }

    static void narrow(BinaryText x, int bits, String want) {
        printed("narrow(0x" + Integer.toHexString(bits) + ")", x, x.narrow(bits), want);
    }

    static void wideHex(BinaryText x, long bits, String want) {
        printed("wideHex(0x" + Long.toHexString(bits) + ")", x, x.wideHex(bits), want);
    }

    static void narrowHex(BinaryText x, int bits, String want) {
        printed("narrowHex(0x" + Integer.toHexString(bits) + ")", x, x.narrowHex(bits), want);
    }

    static void tells(String where, BinaryText x, int kind, boolean minus) {
        due(where + ", kind()", x.kind(), kind);
        due(where + ", minus()", x.minus(), minus);
    }

    static void decimal(String where, BinaryText x, long digits, int tens) {
        due(where + ", digits()", x.digits(), digits);
        due(where + ", tens()", x.tens(), tens);
    }

    static void nothingIsPrinted(String where, BinaryText x) {
        due(where + ", the text", textOf(x), "");
        tells(where, x, 0, false);
        decimal(where, x, 0, 0);
    }

    /** Bounds and a print that a question must leave as they are. */
    static BinaryText askedObject() {
        BinaryText x = new BinaryText();
        x.bounds(-5, 2);
        x.wide(Bits.of(-62.5));
        return x;
    }

    static void isAsBeforeItWasAsked(String question, BinaryText x) {
        String where = "behind " + question;
        due(where + ", the text", textOf(x), "-62.5");
        tells(where, x, 4, true);
        decimal(where, x, 625L, -1);
        printed(where + ", wide(1.0E-5)", x, x.wide(Bits.of(1.0E-5)), "0.00001");
        printed(where + ", wide(100.0)", x, x.wide(Bits.of(100.0)), "1.0E2");
    }

    static void bounds(BinaryText x, int low, int high, boolean want) {
        due("bounds(" + low + ", " + high + ")", x.bounds(low, high), want);
    }

    static void end() {
        System.out.println(looked + " answers, " + wrong + " not as due");
        if (wrong != 0 || looked == 0) {
            System.exit(1);
        }
    }
}
