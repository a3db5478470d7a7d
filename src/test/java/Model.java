import java.math.BigDecimal;
import java.math.BigInteger;
import java.math.RoundingMode;

/** What is due, told by the document's terms word for word over BigDecimal. */
final class Model {
    private static final BigDecimal TWO = BigDecimal.valueOf(2);

    int low = -3;
    int high = 7;
    String text = "";
    int kind = 0;
    boolean minus = false;
    long digits = 0;
    int tens = 0;

    boolean bounds(int newLow, int newHigh) {
        boolean fine = newLow >= -30 && newLow <= 0 && newHigh >= 1 && newHigh <= 30;
        low = fine ? newLow : low;
        high = fine ? newHigh : high;
        return fine;
    }

    void wide(long bits) {
        take(bits < 0, bits & Long.MAX_VALUE, 52, 2047, 1023);
        text = decimalText();
    }

    void narrow(int bits) {
        take(bits < 0, bits & Integer.MAX_VALUE, 23, 255, 127);
        text = decimalText();
    }

    void wideHex(long bits) {
        take(bits < 0, bits & Long.MAX_VALUE, 52, 2047, 1023);
        text = Double.toHexString(Double.longBitsToDouble(bits));
    }

    void narrowHex(int bits) {
        take(bits < 0, bits & Integer.MAX_VALUE, 23, 255, 127);
        text = Float.toHexString(Float.intBitsToFloat(bits));
    }

    private void take(boolean sign, long size, int fractionBits, int top, int bias) {
        long infinite = (long) top << fractionBits;
        minus = sign;
        kind = size > infinite ? 1 : size == infinite ? 2 : size == 0 ? 3 : 4;
        digits = 0;
        tens = 0;
        if (kind == 4) {
            BigDecimal shortest = shortest(size, fractionBits, bias).stripTrailingZeros();
            digits = shortest.unscaledValue().longValueExact();
            tens = -shortest.scale();
        }
    }

    /** The number itself; for the bits of INFINITE the one behind the greatest. */
    static BigDecimal valueOf(long size, int fractionBits, int bias) {
        long e = size >>> fractionBits;
        long f = size & (1L << fractionBits) - 1;
        long m = e == 0 ? f : f + (1L << fractionBits);
        int power = (int) Math.max(e, 1) - bias - fractionBits;
        BigDecimal factor = power >= 0 ? new BigDecimal(BigInteger.ONE.shiftLeft(power))
                : new BigDecimal(BigInteger.valueOf(5).pow(-power), -power);
        return BigDecimal.valueOf(m).multiply(factor);
    }

    private static BigDecimal shortest(long size, int fractionBits, int bias) {
        BigDecimal x = valueOf(size, fractionBits, bias);
        BigDecimal lowest = x.add(valueOf(size - 1, fractionBits, bias)).divide(TWO);
        BigDecimal highest = x.add(valueOf(size + 1, fractionBits, bias)).divide(TWO);
        boolean even = (size & 1) == 0;
        for (int n = 1; ; n++) {
            if (nearest(n, x, lowest, highest, even) != null) {
                return nearest(Math.max(n, 2), x, lowest, highest, even);
            }
        }
    }

    /** Of those with at most n digits that read back as x the nearest one; null: none does. */
    private static BigDecimal nearest(int n, BigDecimal x, BigDecimal lowest, BigDecimal highest,
            boolean even) {
        int scale = x.scale() - x.precision() + n;
        BigDecimal down = x.setScale(scale, RoundingMode.FLOOR);
        BigDecimal up = x.setScale(scale, RoundingMode.CEILING);
        boolean downReads = readsBack(down, lowest, highest, even);
        boolean upReads = readsBack(up, lowest, highest, even);
        if (downReads && upReads) {
            int compared = x.subtract(down).compareTo(up.subtract(x));
            boolean downEven = !down.unscaledValue().testBit(0);
            return compared < 0 || compared == 0 && downEven ? down : up;
        }
        return downReads ? down : upReads ? up : null;
    }

    /** The lowest and the highest lie in the middle between x and its neighbours. */
    private static boolean readsBack(BigDecimal decimal, BigDecimal lowest, BigDecimal highest,
            boolean even) {
        int fromLowest = decimal.compareTo(lowest);
        int fromHighest = decimal.compareTo(highest);
        return even ? fromLowest >= 0 && fromHighest <= 0 : fromLowest > 0 && fromHighest < 0;
    }

    private String decimalText() {
        String sign = minus ? "-" : "";
        switch (kind) {
            case 1:
                return "NaN";
            case 2:
                return sign + "Infinity";
            case 3:
                return sign + "0.0";
            default:
                return sign + finiteText();
        }
    }

    private String finiteText() {
        BigDecimal x = BigDecimal.valueOf(digits).scaleByPowerOfTen(tens);
        if (x.compareTo(BigDecimal.ONE.scaleByPowerOfTen(low)) >= 0
                && x.compareTo(BigDecimal.ONE.scaleByPowerOfTen(high)) < 0) {
            String plain = x.toPlainString();
            return plain.contains(".") ? plain : plain + ".0";
        }
        String d = Long.toString(digits);
        String others = d.length() == 1 ? "0" : d.substring(1);
        return d.charAt(0) + "." + others + "E" + (tens + d.length() - 1);
    }
}
