/** Terms: DECIMAL, LENGTH and the SHORTEST decimal, at the edges. */
public final class TermsShortestEdgesTest {
    public static void main(String[] args) throws IllegalAccessException {
        Cases.run(TermsShortestEdgesTest.class);
    }

    static void dIsNoMultipleOf10() {
        wide(Bits.of(10.0), 1L, 1);
        wide(Bits.of(120.0), 12L, 1);
        wide(Bits.of(1.0E22), 1L, 22);
        wide(Bits.of(1002000.0), 1002L, 3);
        narrow(Bits.of(1.0E10f), 1L, 10);
        narrow(Bits.of(8000000.0f), 8L, 6);
    }

    static void dIsAbove0AlsoBelow0() {
        wide(Bits.of(-0.25), 25L, -2);
        narrow(Bits.of(-0.25f), 25L, -2);
    }

    /** 5E-324, 1E-323 and 1E-45 read back, but two digits are nearer. */
    static void leastLength1Counts2() {
        wide(1L, 49L, -325);
        wide(2L, 99L, -325);
        narrow(1, 14L, -46);
        narrow(7, 98L, -46);
    }

    /** Also with two digits allowed, the nearest one has but one. */
    static void leastLength1StaysWhereTwoDigitsAreNotNearer() {
        wide(4L, 2L, -323);
        narrow(5, 7L, -45);
        narrow(14, 2L, -44);
        wide(Bits.WIDE_ONE, 1L, 0);
    }

    /** 1.48E-323, and 1.12E-44: a third digit would be nearer. */
    static void leastLength2StaysSo() {
        wide(3L, 15L, -324);
        narrow(8, 11L, -45);
    }

    static void greatestLengthOfWideIs17() {
        wide(Bits.of(0.1 + 0.2), 30000000000000004L, -17);
        wide(0x4A98CC2E5D9DC9F9L, 23194692737666724L, 35);
    }

    static void greatestLengthOfNarrowIs9() {
        narrow(0x0A5CD6DB, 106330245L, -40);
        narrow(0x6AE8E5E9, 140778255L, 18);
    }

    static void nearestIsTheUpperOne() {
        wide(0x32899387269E0D38L, 30357663601122933L, -81);
        narrow(0x0E5B4C98, 27030713L, -37);
    }

    static void nearestIsTheLowerOne() {
        wide(0x0B0051AD099950D9L, 10868471536443063L, -271);
        narrow(0x42624107, 56563503L, -6);
    }

    /** 5.684341886080801E-14 and 1.2621774E-29 are nearer, but do not read back. */
    static void nearerOneThatDoesNotReadBackIsLeftOut() {
        wide(Bits.of(0x1p-44), 5684341886080802L, -29);
        narrow(31 << 23, 12621775L, -36);
    }

    static void upperOneIsTheNextPowerOfTen() {
        wide(0x44B52D02C7E14AF6L, 1L, 23);
        wide(Bits.of(1.0E-6), 1L, -6);
        narrow(Bits.of(1.0E11f), 1L, 11);
        narrow(Bits.of(0.01f), 1L, -2);
    }

    static void equallyNearTheLowerMultipleIsEven() {
        wide(Bits.of(0x1p50 + 0.25), 11258999068426242L, -1);
        narrow(Bits.of(2097152.25f), 20971522L, -1);
    }

    static void equallyNearTheUpperMultipleIsEven() {
        wide(Bits.of(0x1p50 + 0.75), 11258999068426248L, -1);
        narrow(Bits.of(2097152.75f), 20971528L, -1);
    }

    static void equallyNearBelow0IsAsAbove() {
        wide(Bits.of(-0x1p50 - 0.25), 11258999068426242L, -1);
        wide(Bits.of(-0x1p50 - 0.75), 11258999068426248L, -1);
        narrow(Bits.of(-2097152.25f), 20971522L, -1);
        narrow(Bits.of(-2097152.75f), 20971528L, -1);
    }

    static void readingBackBelow0IsAsAbove() {
        wide(0xC4B52D02C7E14AF6L, 1L, 23);
        wide(0xC4B52D02C7E14AF7L, 10000000000000001L, 7);
        narrow(0xCF861C46, 45L, 8);
        narrow(0xCF861C47, 45000003L, 2);
    }

    private static void wide(long bits, long d, int t) {
        BinaryText x = new BinaryText();
        x.wide(bits);
        Check.decimal("behind wide(0x" + Long.toHexString(bits) + ")", x, d, t);
    }

    private static void narrow(int bits, long d, int t) {
        BinaryText x = new BinaryText();
        x.narrow(bits);
        Check.decimal("behind narrow(0x" + Integer.toHexString(bits) + ")", x, d, t);
    }
}
