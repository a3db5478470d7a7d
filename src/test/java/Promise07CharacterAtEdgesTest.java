/** Promise 7: the edges of characterAt. */
public final class Promise07CharacterAtEdgesTest {
    private static final String LONGEST_TEXT = "-0.0000000000000000000000000000012345678901234567";

    public static void main(String[] args) throws IllegalAccessException {
        Cases.run(Promise07CharacterAtEdgesTest.class);
    }

    static void nothingPrintedHasNone() {
        BinaryText x = new BinaryText();
        none(x, -1);
        none(x, 0);
        none(x, 1);
        none(x, Integer.MIN_VALUE);
        none(x, Integer.MAX_VALUE);
    }

    static void theFirstIsCharacter0() {
        BinaryText x = new BinaryText();
        x.wide(Bits.of(-1.5));
        one(x, 0, '-');
        one(x, 1, '1');
    }

    static void minus1HasNone() {
        none(printed(Bits.of(-1.5)), -1);
    }

    static void theLastOneIsOneBelowTheLength() {
        one(printed(Bits.of(-1.5)), 3, '5');
        one(longest(), LONGEST_TEXT.length() - 1, '7');
    }

    static void atTheLengthThereIsNone() {
        none(printed(Bits.of(-1.5)), 4);
        none(longest(), LONGEST_TEXT.length());
    }

    static void farBehindThereIsNone() {
        for (int k = LONGEST_TEXT.length(); k < 2000; k++) {
            none(longest(), k);
        }
    }

    static void leastAndGreatestIntHaveNone() {
        none(longest(), Integer.MIN_VALUE);
        none(longest(), Integer.MIN_VALUE + 1);
        none(longest(), Integer.MAX_VALUE);
        none(longest(), Integer.MAX_VALUE - 1);
    }

    /** A k that is cut to fewer bits, or taken around a row's end, would find a character. */
    static void wrapAroundFindsNone() {
        for (int bit = 6; bit < 32; bit++) {
            none(longest(), 1 << bit);
            none(longest(), (1 << bit) + 1);
            none(longest(), -(1 << bit));
        }
    }

    static void shorterTextHidesTheLongerOne() {
        BinaryText x = longest();
        x.wide(0L);
        one(x, 2, '0');
        for (int k = 3; k <= LONGEST_TEXT.length(); k++) {
            none(x, k);
        }
    }

    static void askingChangesNothing() {
        BinaryText x = Check.askedObject();
        none(x, 5);
        one(x, 0, '-');
        none(x, -1);
        one(x, 0, '-');
        one(x, 4, '5');
        Check.isAsBeforeItWasAsked("characterAt", x);
    }

    static void codesOfEveryCharacterThatOccurs() {
        BinaryText x = printed(Bits.of(-9.012345678E-30));
        one(x, 0, (char) 45);
        one(x, 1, (char) 57);
        one(x, 2, (char) 46);
        one(x, 3, (char) 48);
        one(x, 12, (char) 69);
        one(x, 13, (char) 45);
        x.wideHex(Bits.of(0x1.afp5));
        one(x, 1, (char) 120);
        one(x, 4, (char) 97);
        one(x, 5, (char) 102);
        one(x, 6, (char) 112);
        x.wide(Bits.WIDE_INFINITE);
        one(x, 0, (char) 73);
        one(x, 7, (char) 121);
        x.wide(Bits.WIDE_NO_NUMBER);
        one(x, 0, (char) 78);
        one(x, 1, (char) 97);
        one(x, 2, (char) 78);
        none(x, 3);
    }

    private static BinaryText printed(long bits) {
        BinaryText x = new BinaryText();
        x.wide(bits);
        return x;
    }

    private static BinaryText longest() {
        BinaryText x = new BinaryText();
        x.bounds(-30, 30);
        x.wide(Bits.of(-1.2345678901234567E-30));
        return x;
    }

    private static void one(BinaryText x, int k, char want) {
        Check.due("characterAt(" + k + ")", x.characterAt(k), (int) want);
    }

    private static void none(BinaryText x, int k) {
        Check.due("characterAt(" + k + ")", x.characterAt(k), -1);
    }
}
