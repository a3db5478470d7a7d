/** Counts the answers of one test that are not as due, and ends the test. */
final class Check {
    private static int wrong = 0;
    private static int looked = 0;

    private Check() {
    }

    static void due(String call, Object got, Object want) {
        looked++;
        if (!got.equals(want)) {
            wrong++;
            System.out.println(call + " answered " + got + ", due is " + want);
        }
    }

    static String textOf(BinaryText x) {
        StringBuilder text = new StringBuilder();
        for (int k = 0; k < 1000 && x.characterAt(k) >= 0; k++) {
            text.append((char) x.characterAt(k));
        }
        return text.toString();
    }

    /** What was printed latest, with the answer of the call that printed it. */
    static void printed(String call, BinaryText x, int length, String want) {
        due(call, length, want.length());
        due(call + ", its text", textOf(x), want);
    }

    static void same(String call, BinaryText x, int length, Model model) {
        printed(call, x, length, model.text);
        due(call + ", kind()", x.kind(), model.kind);
        due(call + ", minus()", x.minus(), model.minus);
        due(call + ", digits()", x.digits(), model.digits);
        due(call + ", tens()", x.tens(), model.tens);
    }

    static void end() {
        System.out.println(looked + " answers, " + wrong + " not as due");
        if (wrong != 0 || looked == 0) {
            System.exit(1);
        }
    }
}
