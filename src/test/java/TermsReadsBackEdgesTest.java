/**
 * Terms: which decimals READ BACK as a number, at the edges. A decimal in the middle between two
 * numbers is shorter than all others near it here, so that it is printed where it reads back.
 */
public final class TermsReadsBackEdgesTest {
    public static void main(String[] args) throws IllegalAccessException {
        Cases.run(TermsReadsBackEdgesTest.class);
    }

    static void wideMiddleAboveAnEvenFReadsBack() {
        wide(0x44B52D02C7E14AF6L, "1.0E23");
    }

    static void wideMiddleBelowAnOddFDoesNot() {
        wide(0x44B52D02C7E14AF7L, "1.0000000000000001E23");
    }

    static void wideMiddleBelowAnEvenFReadsBack() {
        wide(0x44ADA56A4B0835C0L, "7.0E22");
    }

    static void wideMiddleAboveAnOddFDoesNot() {
        wide(0x44ADA56A4B0835BFL, "6.9999999999999996E22");
    }

    static void narrowMiddleAboveAnEvenFReadsBack() {
        narrow(0x4F861C46, "4.5E9");
    }

    static void narrowMiddleBelowAnOddFDoesNot() {
        narrow(0x4F861C47, "4.5000003E9");
    }

    static void narrowMiddleBelowAnEvenFReadsBack() {
        narrow(0x4F802666, "4.3E9");
    }

    static void narrowMiddleAboveAnOddFDoesNot() {
        narrow(0x4F802665, "4.2999997E9");
    }

    /** 1.780059086805761E-307 is nearer to the number below, which is half as far. */
    static void wideBelowAPowerOfTwoIsHalfAsFar() {
        wide(0x0040000000000000L, "1.7800590868057611E-307");
        wide(Bits.of(0x1p-44), "5.684341886080802E-14");
    }

    /** 9.860761E-32 and 3.355443E7 are nearer to the number below, which is half as far. */
    static void narrowBelowAPowerOfTwoIsHalfAsFar() {
        narrow(24 << 23, "9.8607613E-32");
        narrow(Bits.of(0x1p25f), "3.3554432E7");
    }

    static void belowTheLeastNumberOfE1IsAsFarAsAbove() {
        wide(Bits.WIDE_LEAST_OF_E_1, "2.2250738585072014E-308");
        narrow(Bits.NARROW_LEAST_OF_E_1, "1.1754944E-38");
    }

    /** Their neighbour 0 is as far below as the next one above. */
    static void besideTheLeastOnesStandsZero() {
        wide(Bits.WIDE_LEAST, "4.9E-324");
        narrow(Bits.NARROW_LEAST, "1.4E-45");
    }

    /** Without the number behind it, 1.8E308 would read back as the greatest one. */
    static void behindTheGreatestWideOneStands2To1024() {
        wide(Bits.WIDE_GREATEST, "1.7976931348623157E308");
        wide(Bits.WIDE_SIGN | Bits.WIDE_GREATEST, "-1.7976931348623157E308");
    }

    /** Without the number behind it, 3.5E38 would read back as the greatest one. */
    static void behindTheGreatestNarrowOneStands2To128() {
        narrow(Bits.NARROW_GREATEST, "3.4028235E38");
        narrow(Bits.NARROW_SIGN | Bits.NARROW_GREATEST, "-3.4028235E38");
    }

    private static void wide(long bits, String text) {
        Check.wide(new BinaryText(), bits, text);
    }

    private static void narrow(int bits, String text) {
        Check.narrow(new BinaryText(), bits, text);
    }
}
