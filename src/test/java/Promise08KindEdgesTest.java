/** Promise 8: the edges of kind. */
public final class Promise08KindEdgesTest {
    public static void main(String[] args) throws IllegalAccessException {
        Cases.run(Promise08KindEdgesTest.class);
    }

    static void nothingYetIs0() {
        Check.due("kind()", new BinaryText().kind(), 0);
    }

    static void nothingYetIs0BehindCallsThatPrintNothing() {
        BinaryText x = new BinaryText();
        x.bounds(-30, 30);
        x.bounds(-31, 31);
        x.characterAt(0);
        x.minus();
        x.digits();
        x.tens();
        Check.due("kind()", x.kind(), 0);
    }

    static void noNumberIs1NextToInfinite() {
        wide(0x7FF0000000000001L, 1);
        wide(0xFFF0000000000001L, 1);
        wide(0x7FFFFFFFFFFFFFFFL, 1);
        wide(-1L, 1);
        narrow(0x7F800001, 1);
        narrow(0xFF800001, 1);
        narrow(0x7FFFFFFF, 1);
        narrow(-1, 1);
    }

    static void infiniteIs2OnBothSides() {
        wide(0x7FF0000000000000L, 2);
        wide(0xFFF0000000000000L, 2);
        narrow(0x7F800000, 2);
        narrow(0xFF800000, 2);
    }

    static void zeroIs3OnBothSides() {
        wide(0L, 3);
        wide(0x8000000000000000L, 3);
        narrow(0, 3);
        narrow(0x80000000, 3);
    }

    static void theLeastIs4() {
        wide(1L, 4);
        wide(0x8000000000000001L, 4);
        narrow(1, 4);
        narrow(0x80000001, 4);
    }

    static void theGreatestIs4() {
        wide(0x7FEFFFFFFFFFFFFFL, 4);
        wide(0xFFEFFFFFFFFFFFFFL, 4);
        narrow(0x7F7FFFFF, 4);
        narrow(0xFF7FFFFF, 4);
    }

    static void fOf0IsZeroOnlyWithEOf0() {
        wide(0x0010000000000000L, 4);
        wide(0x7FE0000000000000L, 4);
        narrow(0x00800000, 4);
        narrow(0x7F000000, 4);
    }

    static void latestCountsFromEveryKindToEveryOther() {
        long[] bits = {0x7FF0000000000001L, 0x7FF0000000000000L, 0L, 1L};
        for (int from = 0; from < bits.length; from++) {
            for (int to = 0; to < bits.length; to++) {
                BinaryText x = new BinaryText();
                x.wide(bits[from]);
                x.wide(bits[to]);
                Check.due("kind() from " + (from + 1), x.kind(), to + 1);
            }
        }
    }

    static void boundsLeaveIt() {
        BinaryText x = new BinaryText();
        x.wide(Bits.WIDE_INFINITE);
        x.bounds(0, 1);
        Check.due("kind() behind bounds that are taken", x.kind(), 2);
        x.bounds(1, 0);
        Check.due("kind() behind bounds that are refused", x.kind(), 2);
    }

    static void askingChangesNothing() {
        BinaryText x = Check.askedObject();
        Check.due("kind()", x.kind(), 4);
        Check.due("kind() again", x.kind(), 4);
        Check.isAsBeforeItWasAsked("kind()", x);
    }

    private static void wide(long bits, int want) {
        BinaryText x = new BinaryText();
        x.wide(bits);
        Check.due("kind() behind wide(0x" + Long.toHexString(bits) + ")", x.kind(), want);
        x = new BinaryText();
        x.wideHex(bits);
        Check.due("kind() behind wideHex(0x" + Long.toHexString(bits) + ")", x.kind(), want);
    }

    private static void narrow(int bits, int want) {
        BinaryText x = new BinaryText();
        x.narrow(bits);
        Check.due("kind() behind narrow(0x" + Integer.toHexString(bits) + ")", x.kind(), want);
        x = new BinaryText();
        x.narrowHex(bits);
        Check.due("kind() behind narrowHex(0x" + Integer.toHexString(bits) + ")", x.kind(), want);
    }
}
