import java.util.List;
import java.util.Random;

/** Runs of 512 calls on one object in mixed order, each with the answer that is due. */
public final class RunsTest {
    private static final List<Long> WIDE = Samples.wide(500);
    private static final List<Integer> NARROW = Samples.narrow(500);

    public static void main(String[] args) {
        Random random = new Random(3);
        for (int run = 0; run < 500; run++) {
            mixedRun(random, new BinaryText(), new Model());
        }
        for (int run = 0; run < 500; run++) {
            runOfWholeTexts(random, new BinaryText(), new Model());
        }
        Check.end();
    }

    private static void mixedRun(Random random, BinaryText x, Model model) {
        for (int call = 1; call <= 512; call++) {
            int which = random.nextInt(12);
            if (which < 5) {
                print(which, random, x, model);
            } else if (which == 5) {
                bounds(random.nextInt(34) - 32, random.nextInt(34) - 1, x, model);
            } else {
                ask(which, random, x, model);
            }
        }
    }

    /** A print, its whole text and one character behind it take at most 51 calls. */
    private static void runOfWholeTexts(Random random, BinaryText x, Model model) {
        bounds(-random.nextInt(31), 1 + random.nextInt(30), x, model);
        for (int print = 0; print < 10; print++) {
            print(random.nextInt(5), random, x, model);
            Check.due("the text", Check.textOf(x), model.text);
        }
    }

    private static void print(int which, Random random, BinaryText x, Model model) {
        long bits = which == 4 ? plainLike(random) : WIDE.get(random.nextInt(WIDE.size()));
        int fewBits = NARROW.get(random.nextInt(NARROW.size()));
        switch (which) {
            case 0:
                model.narrow(fewBits);
                Check.due("narrow(" + fewBits + ")", x.narrow(fewBits), model.text.length());
                break;
            case 1:
                model.narrowHex(fewBits);
                Check.due("narrowHex(" + fewBits + ")", x.narrowHex(fewBits), model.text.length());
                break;
            case 2:
                model.wideHex(bits);
                Check.due("wideHex(" + bits + ")", x.wideHex(bits), model.text.length());
                break;
            default:
                model.wide(bits);
                Check.due("wide(" + bits + ")", x.wide(bits), model.text.length());
                break;
        }
    }

    /** A number of a size that some bounds print plain. */
    private static long plainLike(Random random) {
        String d = Long.toString(random.nextLong() >> random.nextInt(64));
        return Bits.of(Double.parseDouble(d + "E" + (random.nextInt(60) - 40)));
    }

    private static void bounds(int low, int high, BinaryText x, Model model) {
        Check.bounds(x, low, high, model.bounds(low, high));
    }

    private static void ask(int which, Random random, BinaryText x, Model model) {
        switch (which) {
            case 6:
                Check.due("kind()", x.kind(), model.kind);
                break;
            case 7:
                Check.due("minus()", x.minus(), model.minus);
                break;
            case 8:
                Check.due("digits()", x.digits(), model.digits);
                break;
            case 9:
                Check.due("tens()", x.tens(), model.tens);
                break;
            default:
                int k = random.nextInt(model.text.length() + 4) - 2;
                int code = k >= 0 && k < model.text.length() ? model.text.charAt(k) : -1;
                Check.due("characterAt(" + k + ")", x.characterAt(k), code);
                break;
        }
    }
}
