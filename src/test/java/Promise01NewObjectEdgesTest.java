/** Promise 1: the edges of a new object. */
public final class Promise01NewObjectEdgesTest {
    public static void main(String[] args) throws IllegalAccessException {
        Cases.run(Promise01NewObjectEdgesTest.class);
    }

    static void nothingIsPrinted() {
        Check.nothingIsPrinted("a new object", new BinaryText());
    }

    static void lowIsMinus3() {
        Check.wide(new BinaryText(), Bits.of(1.0E-3), "0.001");
        Check.wide(new BinaryText(), Bits.of(9.0E-4), "9.0E-4");
        Check.narrow(new BinaryText(), Bits.of(1.0E-3f), "0.001");
        Check.narrow(new BinaryText(), Bits.of(9.0E-4f), "9.0E-4");
    }

    static void highIs7() {
        Check.wide(new BinaryText(), Bits.of(9.0E6), "9000000.0");
        Check.wide(new BinaryText(), Bits.of(1.0E7), "1.0E7");
        Check.narrow(new BinaryText(), Bits.of(9.0E6f), "9000000.0");
        Check.narrow(new BinaryText(), Bits.of(1.0E7f), "1.0E7");
    }

    static void anotherObjectDoesNotShowInIt() {
        BinaryText other = new BinaryText();
        other.bounds(-30, 30);
        other.wide(Bits.of(-1.5E20));
        BinaryText x = new BinaryText();
        Check.nothingIsPrinted("the second object", x);
        Check.wide(x, Bits.of(1.0E-4), "1.0E-4");
        Check.wide(x, Bits.of(1.0E7), "1.0E7");
        Check.due("the first object's text", Check.textOf(other), "-150000000000000000000.0");
    }
}
