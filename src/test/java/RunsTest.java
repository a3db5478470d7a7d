import java.util.List;
import java.util.Random;

/** Runs of 512 calls in mixed order, each with every answer that is due. */
public final class RunsTest {
    private static final List<Long> WIDE = Samples.wide(500);
    private static final List<Integer> NARROW = Samples.narrow(500);

    public static void main(String[] args) {
        Random random = new Random(3);
        for (int run = 0; run < 200; run++) {
            oneRun(random, new BinaryText(), new Model());
        }
        Check.end();
    }

    private static void oneRun(Random random, BinaryText x, Model model) {
        for (int call = 0; call < 512; call++) {
            switch (random.nextInt(10)) {
                case 0:
                    bounds(x, model, random.nextInt(34) - 32, random.nextInt(34) - 1);
                    break;
                case 1:
                    wide(x, model, WIDE.get(random.nextInt(WIDE.size())));
                    break;
                case 2:
                    narrow(x, model, NARROW.get(random.nextInt(NARROW.size())));
                    break;
                case 3:
                    wideHex(x, model, WIDE.get(random.nextInt(WIDE.size())));
                    break;
                case 4:
                    narrowHex(x, model, NARROW.get(random.nextInt(NARROW.size())));
                    break;
                case 5:
                    wide(x, model, plainLike(random));
                    break;
                default:
                    ask(x, model, random);
                    break;
            }
        }
    }

    private static void bounds(BinaryText x, Model model, int low, int high) {
        Check.due("bounds(" + low + ", " + high + ")", x.bounds(low, high), model.bounds(low, high));
    }

    private static void wide(BinaryText x, Model model, long bits) {
        model.wide(bits);
        Check.due("wide(" + bits + ")", x.wide(bits), model.text.length());
    }

    private static void narrow(BinaryText x, Model model, int bits) {
        model.narrow(bits);
        Check.due("narrow(" + bits + ")", x.narrow(bits), model.text.length());
    }

    private static void wideHex(BinaryText x, Model model, long bits) {
        model.wideHex(bits);
        Check.due("wideHex(" + bits + ")", x.wideHex(bits), model.text.length());
    }

    private static void narrowHex(BinaryText x, Model model, int bits) {
        model.narrowHex(bits);
        Check.due("narrowHex(" + bits + ")", x.narrowHex(bits), model.text.length());
    }

    /** A number of a size that some bounds print plain. */
    private static long plainLike(Random random) {
        String d = Long.toString(random.nextLong() >> random.nextInt(64));
        return Double.doubleToRawLongBits(Double.parseDouble(d + "E" + (random.nextInt(60) - 40)));
    }

    private static void ask(BinaryText x, Model model, Random random) {
        int k = random.nextInt(60) - 2;
        int code = k >= 0 && k < model.text.length() ? model.text.charAt(k) : -1;
        Check.due("characterAt(" + k + ")", x.characterAt(k), code);
        Check.due("the text", Check.textOf(x), model.text);
        Check.due("kind()", x.kind(), model.kind);
        Check.due("minus()", x.minus(), model.minus);
        Check.due("digits()", x.digits(), model.digits);
        Check.due("tens()", x.tens(), model.tens);
    }
}
