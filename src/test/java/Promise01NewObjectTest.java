/** Promise 1: nothing is printed, LOW is -3 and HIGH is 7. */
public final class Promise01NewObjectTest {
    public static void main(String[] args) {
        nothingIsPrinted(new BinaryText());
        firstBounds();
        objectsAreApart();
        Check.end();
    }

    private static void nothingIsPrinted(BinaryText x) {
        Check.due("kind()", x.kind(), 0);
        Check.due("minus()", x.minus(), false);
        Check.due("digits()", x.digits(), 0L);
        Check.due("tens()", x.tens(), 0);
        Check.due("characterAt(0)", x.characterAt(0), -1);
    }

    private static void firstBounds() {
        wide(0.001, "0.001");
        wide(Math.nextDown(0.001), "9.999999999999998E-4");
        wide(9999999.999999998, "9999999.999999998");
        wide(1.0E7, "1.0E7");
    }

    private static void wide(double number, String want) {
        BinaryText x = new BinaryText();
        Check.printed("wide of " + number, x, x.wide(Bits.of(number)), want);
    }

    private static void objectsAreApart() {
        BinaryText first = new BinaryText();
        first.bounds(0, 30);
        first.wide(Bits.of(-1.5));
        nothingIsPrinted(new BinaryText());
        firstBounds();
        Check.due("the first text", Check.textOf(first), "-1.5");
    }
}
