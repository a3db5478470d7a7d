/**
 * Prints binary fractions of 64 and 32 bits, told by their bits, as the shortest decimal text
 * that reads back as the same number, and as hexadecimal text.
 *
 * <p>All rows are made by the constructor and used again: a call makes no object.
 */
public final class BinaryText {
    private static final int NOTHING = 0;
    private static final int NO_NUMBER = 1;
    private static final int INFINITE = 2;
    private static final int ZERO = 3;
    private static final int OTHER = 4;

    private final Finder finder = new Finder();
    private final Decimal decimal = new Decimal();
    private final TextRow text = new TextRow();
    private int low = -3;
    private int high = 7;
    private int kind = NOTHING;
    private boolean minus = false;

    public BinaryText() {
    }

    public boolean bounds(int low, int high) {
        if (low < -30 || low > 0 || high < 1 || high > 30) {
            return false;
        }
        this.low = low;
        this.high = high;
        return true;
    }

    public int wide(long bits) {
        return printDecimal(Layout.WIDE, bits);
    }

    public int narrow(int bits) {
        return printDecimal(Layout.NARROW, bits);
    }

    public int wideHex(long bits) {
        return printHex(Layout.WIDE, bits);
    }

    public int narrowHex(int bits) {
        return printHex(Layout.NARROW, bits);
    }

    public int characterAt(int k) {
        return text.codeAt(k);
    }

    public int kind() {
        return kind;
    }

    public boolean minus() {
        return minus;
    }

    public long digits() {
        return decimal.d;
    }

    public int tens() {
        return decimal.t;
    }

    private int printDecimal(Layout layout, long bits) {
        take(layout, bits);
        if (kind == OTHER) {
            putDecimal();
        } else {
            putNamed("0.0");
        }
        return text.used;
    }

    private int printHex(Layout layout, long bits) {
        take(layout, bits);
        if (kind == OTHER) {
            putHex(layout, bits);
        } else {
            putNamed("0x0.0p0");
        }
        return text.used;
    }

    /** Begins a new print: the kind, the sign, the decimal, and the sign's character. */
    private void take(Layout layout, long bits) {
        int e = layout.exponentOf(bits);
        long f = layout.fractionOf(bits);
        kind = kindOf(layout, e, f);
        minus = layout.signOf(bits);
        if (kind == OTHER) {
            long significand = e == 0 ? f : f + layout.hiddenOne();
            // Below a power of two the numbers lie twice as dense, but not below the least
            // one with e = 1: those with e = 0 have the same distance.
            boolean lopsided = f == 0 && e > 1;
            finder.find(significand, layout.powerOf(e), lopsided, decimal);
        } else {
            decimal.clear();
        }
        text.clear();
        if (minus && kind != NO_NUMBER) {
            text.put('-');
        }
    }

    private static int kindOf(Layout layout, int e, long f) {
        if (e == layout.topExponent) {
            return f == 0 ? INFINITE : NO_NUMBER;
        }
        return e == 0 && f == 0 ? ZERO : OTHER;
    }

    private void putNamed(String zero) {
        if (kind == NO_NUMBER) {
            text.putAll("NaN");
        } else if (kind == INFINITE) {
            text.putAll("Infinity");
        } else {
            text.putAll(zero);
        }
    }

    private void putDecimal() {
        int first = decimal.firstPlace();
        if (first >= low && first < high) {
            putPlaces(Math.max(first, 0), 0);
            text.put('.');
            putPlaces(-1, Math.min(decimal.t, -1));
        } else {
            putPlaces(first, first);
            text.put('.');
            putPlaces(first - 1, Math.min(decimal.t, first - 1));
            text.put('E');
            text.putWhole(first);
        }
    }

    /** The digits from one place of ten down to another, both included. */
    private void putPlaces(int from, int to) {
        for (int place = from; place >= to; place--) {
            text.put(decimal.digitAt(place));
        }
    }

    private void putHex(Layout layout, long bits) {
        int e = layout.exponentOf(bits);
        text.putAll(e == 0 ? "0x0." : "0x1.");
        text.putHexPlaces(layout.hexFractionOf(bits), layout.hexPlaces);
        text.put('p');
        text.putWhole(layout.binaryExponentOf(e));
    }

    /** How the bits of the two kinds of numbers are laid out. */
    private enum Layout {
        WIDE(52, 2047, 1023, 13),
        NARROW(23, 255, 127, 6);

        final int fractionBits;
        final int topExponent;
        final int bias;
        final int hexPlaces;

        Layout(int fractionBits, int topExponent, int bias, int hexPlaces) {
            this.fractionBits = fractionBits;
            this.topExponent = topExponent;
            this.bias = bias;
            this.hexPlaces = hexPlaces;
        }

        boolean signOf(long bits) {
            return (bits >>> fractionBits & (topExponent + 1)) != 0;
        }

        int exponentOf(long bits) {
            return (int) (bits >>> fractionBits) & topExponent;
        }

        long fractionOf(long bits) {
            return bits & (hiddenOne() - 1);
        }

        /** The fraction moved up so that it fills its hexadecimal digits. */
        long hexFractionOf(long bits) {
            return fractionOf(bits) << (4 * hexPlaces - fractionBits);
        }

        long hiddenOne() {
            return 1L << fractionBits;
        }

        /** Numbers with e = 0 stand at the same power of two as those with e = 1. */
        int binaryExponentOf(int e) {
            return Math.max(e, 1) - bias;
        }

        /** The power of two that the whole significand is multiplied by. */
        int powerOf(int e) {
            return binaryExponentOf(e) - fractionBits;
        }
    }

    /** The text that was printed latest. */
    private static final class TextRow {
        // The longest text is "-0." with 29 zeros and 17 digits.
        private static final int ROOM = 64;

        private final char[] row = new char[ROOM];
        private int used = 0;

        void clear() {
            used = 0;
        }

        void put(char c) {
            if (used >= 0 && used < row.length) {
                row[used] = c;
                used++;
            }
        }

        void putAll(String s) {
            for (int i = 0; i < s.length(); i++) {
                put(s.charAt(i));
            }
        }

        /** A whole number of at most four digits, with "-" if it is below 0. */
        void putWhole(int number) {
            if (number < 0) {
                put('-');
            }
            int size = Math.abs(number);
            for (int unit = 1000; unit >= 1; unit /= 10) {
                if (size >= unit || unit == 1) {
                    put((char) ('0' + size / unit % 10));
                }
            }
        }

        /** The hexadecimal digits of a fraction without zeros at its end, but at least one. */
        void putHexPlaces(long fraction, int places) {
            int last = 0;
            while (last < places - 1 && (fraction >>> 4 * last & 15) == 0) {
                last++;
            }
            for (int i = places - 1; i >= last; i--) {
                put(hexDigit((int) (fraction >>> 4 * i) & 15));
            }
        }

        int codeAt(int k) {
            return k >= 0 && k < used && k < row.length ? row[k] : -1;
        }

        private static char hexDigit(int value) {
            return (char) (value < 10 ? '0' + value : 'a' + value - 10);
        }
    }

    /** d * 10^t with its digits spread out; d is 0 when there is none. */
    private static final class Decimal {
        // A long has no more digits.
        private static final int MOST_DIGITS = 19;

        private final char[] row = new char[MOST_DIGITS];
        private int count = 0;
        private long d = 0;
        private int t = 0;

        void clear() {
            count = 0;
            d = 0;
            t = 0;
        }

        /** Takes number * 10^place, the number above 0. */
        void become(long number, int place) {
            d = number;
            t = place;
            for (int i = 0; i < MOST_DIGITS && d % 10 == 0; i++) {
                d /= 10;
                t++;
            }
            spread();
        }

        private void spread() {
            long left = d;
            count = 0;
            while (left > 0 && count < row.length) {
                row[count] = (char) ('0' + left % 10);
                left /= 10;
                count++;
            }
        }

        /** The power of ten at which the first digit stands. */
        int firstPlace() {
            return t + count - 1;
        }

        char digitAt(int place) {
            int i = place - t;
            return i >= 0 && i < count && i < row.length ? row[i] : '0';
        }
    }

    /**
     * Finds the shortest decimal, digit by digit, in exact arithmetic. In units of the place of
     * the digit taken latest, rest / whole is what the digits so far leave of the number, and
     * above / whole is half the way to the next number above.
     */
    private static final class Finder {
        // Seventeen digits tell every wide number from its neighbours.
        private static final int MOST_DIGITS = 17;
        // 315653 / 2^20 is near enough to the logarithm of 2 for every power of two that occurs.
        private static final int LOG_FACTOR = 315653;
        private static final int LOG_SHIFT = 20;

        private final Natural rest = new Natural();
        private final Natural above = new Natural();
        private final Natural whole = new Natural();

        /** For significand * 2^power, above 0; lopsided if the next one below is half as far. */
        void find(long significand, int power, boolean lopsided, Decimal answer) {
            int place = highestPlace(significand, power);
            scale(significand, power, place);
            if (rest.compareWith(whole) < 0) {
                tenfold();
                place--;
            }
            boolean even = (significand & 1) == 0;
            boolean downReads = false;
            boolean upReads = false;
            long number = takeDigit();
            // Two digits are always allowed, so that one alone is never looked at.
            for (int n = 2; n <= MOST_DIGITS && !downReads && !upReads; n++) {
                tenfold();
                place--;
                number = number * 10 + takeDigit();
                downReads = isWithin(compareDown(lopsided), even);
                upReads = isWithin(compareUp(), even);
            }
            boolean up = upReads && (!downReads || isUpNearer(number));
            answer.become(up ? number + 1 : number, place);
        }

        /** The place of the first digit, or the one above it. */
        private static int highestPlace(long significand, int power) {
            int twos = 63 - Long.numberOfLeadingZeros(significand) + power;
            return (twos * LOG_FACTOR >> LOG_SHIFT) + 1;
        }

        /** Doubled, the significand has the half step to the next number as its unit. */
        private void scale(long significand, int power, int place) {
            rest.become(2 * significand);
            above.become(1);
            whole.become(1);
            rest.timesFives(-place);
            above.timesFives(-place);
            whole.timesFives(place);
            // The twos of 10^place are taken off those of the number, to keep the rows short.
            int twos = power - 1 - place;
            rest.timesTwos(twos);
            above.timesTwos(twos);
            whole.timesTwos(-twos);
        }

        private void tenfold() {
            rest.times(10);
            above.times(10);
        }

        private int takeDigit() {
            int digit = 0;
            while (digit < 9 && rest.compareWith(whole) >= 0) {
                rest.subtract(whole);
                digit++;
            }
            return digit;
        }

        /** The way down to the digits so far, against half the way to the number below. */
        private int compareDown(boolean lopsided) {
            return lopsided ? Natural.compareSum(rest, rest, above) : rest.compareWith(above);
        }

        /** The way up to one more than the digits so far, against half that to the number above. */
        private int compareUp() {
            return -Natural.compareSum(rest, above, whole);
        }

        /** A decimal just between two numbers reads back as the even one. */
        private static boolean isWithin(int compared, boolean even) {
            return compared < 0 || compared == 0 && even;
        }

        private boolean isUpNearer(long number) {
            int compared = Natural.compareSum(rest, rest, whole);
            return compared > 0 || compared == 0 && (number & 1) == 1;
        }
    }

    /** A whole number of many words of 32 bits, the lowest first; words from used on are 0. */
    private static final class Natural {
        // The greatest that occurs, for wide numbers near 2^-1022, has fewer than 780 bits.
        private static final int WORDS = 26;
        private static final int WORD_BITS = 32;
        private static final long WORD_MASK = 0xFFFFFFFFL;
        // The greatest powers of five and two that times() can take at once.
        private static final int FIVES_AT_ONCE = 13;
        private static final int TWOS_AT_ONCE = 31;

        private final long[] words = new long[WORDS];
        private int used = 0;

        /** Takes a value that is not below 0. */
        void become(long value) {
            long left = value;
            for (int i = 0; i < words.length; i++) {
                words[i] = left & WORD_MASK;
                left >>>= WORD_BITS;
            }
            used = 2;
        }

        /** The factor is at most 2^31, so that a product and its carry fit a long. */
        void times(long factor) {
            long carry = 0;
            for (int i = 0; i < used && i < words.length; i++) {
                long product = words[i] * factor + carry;
                words[i] = product & WORD_MASK;
                carry = product >>> WORD_BITS;
            }
            if (carry != 0 && used >= 0 && used < words.length) {
                words[used] = carry;
                used++;
            }
        }

        /** Nothing happens for a count below 1. */
        void timesFives(int count) {
            for (int left = count; left > 0; left -= FIVES_AT_ONCE) {
                times(smallPowerOfFive(Math.min(left, FIVES_AT_ONCE)));
            }
        }

        private static long smallPowerOfFive(int count) {
            long power = 1;
            for (int i = 0; i < count; i++) {
                power *= 5;
            }
            return power;
        }

        /** Nothing happens for a count below 1. */
        void timesTwos(int count) {
            for (int left = count; left > 0; left -= TWOS_AT_ONCE) {
                times(1L << Math.min(left, TWOS_AT_ONCE));
            }
        }

        /** The other one is at most this one. */
        void subtract(Natural other) {
            long borrow = 0;
            for (int i = 0; i < used && i < words.length; i++) {
                long difference = words[i] - other.words[i] + borrow;
                words[i] = difference & WORD_MASK;
                borrow = difference >> WORD_BITS;
            }
        }

        int compareWith(Natural other) {
            int end = Math.min(Math.max(used, other.used), words.length);
            for (int i = end - 1; i >= 0; i--) {
                if (words[i] != other.words[i]) {
                    return words[i] < other.words[i] ? -1 : 1;
                }
            }
            return 0;
        }

        /** Compares a + b with c. */
        static int compareSum(Natural a, Natural b, Natural c) {
            int end = Math.min(Math.max(Math.max(a.used, b.used), c.used), WORDS);
            long borrow = 0;
            long seen = 0;
            for (int i = 0; i < end; i++) {
                long difference = c.words[i] - a.words[i] - b.words[i] + borrow;
                seen |= difference & WORD_MASK;
                borrow = difference >> WORD_BITS;
            }
            if (borrow < 0) {
                return 1;
            }
            return seen == 0 ? 0 : -1;
        }
    }
}
