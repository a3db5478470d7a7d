/** Promise 2: the edges of bounds. */
public final class Promise02BoundsEdgesTest {
    private static final int LEAST_INT = Integer.MIN_VALUE;
    private static final int GREATEST_INT = Integer.MAX_VALUE;

    public static void main(String[] args) throws IllegalAccessException {
        Cases.run(Promise02BoundsEdgesTest.class);
    }

    static void lowOfMinus30IsTaken() {
        BinaryText x = new BinaryText();
        Check.bounds(x, -30, 7, true);
        Check.wide(x, Bits.of(1.0E-30), "0.000000000000000000000000000001");
        Check.wide(x, Bits.of(9.0E-31), "9.0E-31");
    }

    static void lowOfMinus31IsRefused() {
        refused(-31, 9);
    }

    static void lowOf0IsTaken() {
        BinaryText x = new BinaryText();
        Check.bounds(x, 0, 7, true);
        Check.wide(x, Bits.of(1.0), "1.0");
        Check.wide(x, Bits.of(0.5), "5.0E-1");
    }

    static void lowOf1IsRefused() {
        refused(1, 9);
    }

    static void highOf1IsTaken() {
        BinaryText x = new BinaryText();
        Check.bounds(x, -3, 1, true);
        Check.wide(x, Bits.of(9.5), "9.5");
        Check.wide(x, Bits.of(10.0), "1.0E1");
    }

    static void highOf0IsRefused() {
        refused(-5, 0);
    }

    static void highOf30IsTaken() {
        BinaryText x = new BinaryText();
        Check.bounds(x, -3, 30, true);
        Check.wide(x, Bits.of(9.0E29), "900000000000000000000000000000.0");
        Check.wide(x, Bits.of(1.0E30), "1.0E30");
    }

    static void highOf31IsRefused() {
        refused(-5, 31);
    }

    static void highBelow0IsRefused() {
        refused(-5, -1);
        refused(-30, -29);
    }

    static void leastAndGreatestIntAreRefused() {
        refused(LEAST_INT, 9);
        refused(GREATEST_INT, 9);
        refused(-5, LEAST_INT);
        refused(-5, GREATEST_INT);
        refused(LEAST_INT, GREATEST_INT);
        refused(GREATEST_INT, LEAST_INT);
    }

    static void bothWrongIsRefused() {
        refused(-31, 31);
        refused(1, 0);
        refused(7, -3);
    }

    static void narrowestAndWidestAreTaken() {
        BinaryText x = new BinaryText();
        Check.bounds(x, 0, 1, true);
        Check.wide(x, Bits.of(0.5), "5.0E-1");
        Check.wide(x, Bits.of(10.0), "1.0E1");
        Check.bounds(x, -30, 30, true);
        Check.wide(x, Bits.of(1.0E-30), "0.000000000000000000000000000001");
        Check.wide(x, Bits.of(1.0E29), "100000000000000000000000000000.0");
    }

    static void sameAgainIsTaken() {
        BinaryText x = new BinaryText();
        Check.bounds(x, -3, 7, true);
        Check.bounds(x, -3, 7, true);
        thoseOfMinus3And7(x);
    }

    static void latestTakenOnesCount() {
        BinaryText x = new BinaryText();
        Check.bounds(x, -30, 30, true);
        Check.bounds(x, 0, 1, true);
        Check.bounds(x, -3, 7, true);
        thoseOfMinus3And7(x);
    }

    static void refusedOnANewObjectLeavesTheFirstOnes() {
        BinaryText x = new BinaryText();
        Check.bounds(x, -31, 30, false);
        Check.bounds(x, -30, 31, false);
        thoseOfMinus3And7(x);
    }

    static void takenLeavesWhatWasPrinted() {
        BinaryText x = new BinaryText();
        x.wide(Bits.of(-1234.5));
        Check.bounds(x, 0, 1, true);
        minus1234And5(x);
    }

    static void refusedLeavesWhatWasPrinted() {
        BinaryText x = new BinaryText();
        x.wide(Bits.of(-1234.5));
        Check.bounds(x, 1, 1, false);
        minus1234And5(x);
    }

    static void beforeThePrintNothingIsPrinted() {
        BinaryText x = new BinaryText();
        Check.bounds(x, -30, 30, true);
        Check.nothingIsPrinted("behind bounds that are taken", x);
        Check.bounds(x, -31, 30, false);
        Check.nothingIsPrinted("behind bounds that are refused", x);
    }

    static void theyHoldForNarrowToo() {
        BinaryText x = new BinaryText();
        Check.bounds(x, -5, 9, true);
        Check.narrow(x, Bits.of(1.0E-5f), "0.00001");
        Check.narrow(x, Bits.of(9.0E-6f), "9.0E-6");
        Check.narrow(x, Bits.of(9.0E8f), "900000000.0");
        Check.narrow(x, Bits.of(1.0E9f), "1.0E9");
    }

    static void theyHoldForAllThatFollows() {
        BinaryText x = new BinaryText();
        Check.bounds(x, -5, 9, true);
        for (int print = 0; print < 5; print++) {
            Check.wide(x, Bits.of(1.0E8), "100000000.0");
            Check.wideHex(x, Bits.of(1.0E8), "0x1.7d784p26");
            Check.narrow(x, Bits.of(1.0E-5f), "0.00001");
        }
    }

    static void noPrintChangesThem() {
        long[] wide = {Bits.WIDE_NO_NUMBER, Bits.WIDE_INFINITE, 0L, Bits.WIDE_GREATEST};
        int[] narrow = {Bits.NARROW_NO_NUMBER, Bits.NARROW_INFINITE, 0, Bits.NARROW_GREATEST};
        for (int kind = 0; kind < wide.length; kind++) {
            BinaryText x = new BinaryText();
            Check.bounds(x, -5, 2, true);
            x.wide(wide[kind]);
            thoseOfMinus5And2(x);
            x.wideHex(wide[kind]);
            thoseOfMinus5And2(x);
            x.narrow(narrow[kind]);
            thoseOfMinus5And2(x);
            x.narrowHex(narrow[kind]);
            thoseOfMinus5And2(x);
        }
    }

    /** Either bound that was set before stays, also where the other one alone is wrong. */
    private static void refused(int low, int high) {
        BinaryText x = new BinaryText();
        Check.bounds(x, -2, 4, true);
        Check.bounds(x, low, high, false);
        String behind = "behind bounds(" + low + ", " + high + "), wide of ";
        Check.printed(behind + 0.01, x, x.wide(Bits.of(0.01)), "0.01");
        Check.printed(behind + 0.009, x, x.wide(Bits.of(0.009)), "9.0E-3");
        Check.printed(behind + 9000, x, x.wide(Bits.of(9000.0)), "9000.0");
        Check.printed(behind + 10000, x, x.wide(Bits.of(10000.0)), "1.0E4");
    }

    private static void thoseOfMinus3And7(BinaryText x) {
        Check.wide(x, Bits.of(0.001), "0.001");
        Check.wide(x, Bits.of(9.0E-4), "9.0E-4");
        Check.wide(x, Bits.of(9.0E6), "9000000.0");
        Check.wide(x, Bits.of(1.0E7), "1.0E7");
    }

    private static void thoseOfMinus5And2(BinaryText x) {
        Check.wide(x, Bits.of(1.0E-5), "0.00001");
        Check.wide(x, Bits.of(9.0E-6), "9.0E-6");
        Check.wide(x, Bits.of(99.5), "99.5");
        Check.wide(x, Bits.of(100.0), "1.0E2");
    }

    private static void minus1234And5(BinaryText x) {
        Check.due("the text printed before", Check.textOf(x), "-1234.5");
        Check.tells("printed before", x, 4, true);
        Check.decimal("printed before", x, 12345L, -1);
    }
}
