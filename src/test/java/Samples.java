import java.util.ArrayList;
import java.util.List;
import java.util.Random;

/** Bits worth printing: the edges of both kinds, and the same random ones every time. */
final class Samples {
    private Samples() {
    }

    static List<Long> wide(int randomOnes) {
        List<Long> all = new ArrayList<>();
        for (long e = 0; e < 2048; e++) {
            around(all, e << 52);
        }
        for (int t = -326; t <= 310; t++) {
            for (int d = 1; d < 10; d++) {
                around(all, Double.doubleToRawLongBits(Double.parseDouble(d + "E" + t)));
            }
        }
        Random random = new Random(1);
        for (int i = 0; i < randomOnes; i++) {
            all.add(random.nextLong());
            all.add(Double.doubleToRawLongBits(random.nextInt() / 1000.0));
            all.add(random.nextLong() >>> 12 + random.nextInt(52));
            // Quarters, where two decimals are equally near.
            all.add((1023L + 50 << 52) + (random.nextLong() >>> 12));
        }
        return all;
    }

    static List<Integer> narrow(int randomOnes) {
        List<Integer> all = new ArrayList<>();
        for (int e = 0; e < 256; e++) {
            for (int away = -3; away <= 3; away++) {
                all.add((e << 23) + away);
            }
        }
        for (int t = -48; t <= 40; t++) {
            for (int d = 1; d < 30; d++) {
                int bits = Float.floatToRawIntBits(Float.parseFloat(d + "E" + t));
                all.add(bits - 1);
                all.add(bits);
                all.add(bits + 1);
            }
        }
        Random random = new Random(2);
        for (int i = 0; i < randomOnes; i++) {
            all.add(random.nextInt());
            all.add(Float.floatToRawIntBits(random.nextInt() / 1000.0f));
            all.add(random.nextInt() >>> 9 + random.nextInt(23));
            all.add((127 + 21 << 23) + (random.nextInt() >>> 9));
        }
        return all;
    }

    private static void around(List<Long> all, long bits) {
        for (int away = -1; away <= 1; away++) {
            all.add(bits + away);
        }
    }
}
