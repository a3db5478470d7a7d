/** Bits at the edges of the two kinds of numbers. */
final class Bits {
    static final long WIDE_SIGN = 0x8000000000000000L;
    static final long WIDE_LEAST = 1L;
    static final long WIDE_GREATEST_OF_E_0 = 0x000FFFFFFFFFFFFFL;
    static final long WIDE_LEAST_OF_E_1 = 0x0010000000000000L;
    static final long WIDE_ONE = 0x3FF0000000000000L;
    static final long WIDE_GREATEST = 0x7FEFFFFFFFFFFFFFL;
    static final long WIDE_INFINITE = 0x7FF0000000000000L;
    static final long WIDE_NO_NUMBER = 0x7FF8000000000000L;

    static final int NARROW_SIGN = 0x80000000;
    static final int NARROW_LEAST = 1;
    static final int NARROW_GREATEST_OF_E_0 = 0x007FFFFF;
    static final int NARROW_LEAST_OF_E_1 = 0x00800000;
    static final int NARROW_ONE = 0x3F800000;
    static final int NARROW_GREATEST = 0x7F7FFFFF;
    static final int NARROW_INFINITE = 0x7F800000;
    static final int NARROW_NO_NUMBER = 0x7FC00000;

    private Bits() {
    }

    static long of(double number) {
        return Double.doubleToRawLongBits(number);
    }

    static int of(float number) {
        return Float.floatToRawIntBits(number);
    }
}
