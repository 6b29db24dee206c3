import java.util.Random;

/** Promises 6 to 8: sounds of many kinds are made as the document's model makes them, and read again. */
public final class MakeAgainstModelTest {
    private static final int[] types = new int[64];
    private static final int[] assignments = new int[16];
    private static final int[] orders = new int[5];

    public static void main(String[] args) {
        for (int seed = 0; seed < 600; seed++) {
            compare(seed);
        }
        for (int type : new int[] {0, 1, 8, 9, 10, 11, 12, 33}) {
            Check.holds("type " + type + " came up", types[type] > 0);
        }
        for (int a = 0; a <= 10; a++) {
            Check.holds("assignment " + a + " came up", assignments[a] > 0);
        }
        for (int q = -1; q <= 3; q++) {
            Check.holds("order " + q + " came up", orders[q + 1] > 0);
        }
        Check.end();
    }

    private static void compare(int seed) {
        // Neighbouring seeds begin alike, so they are spread.
        Random random = new Random(seed * 0x9E3779B97F4A7C15L);
        int channels = random.nextBoolean() ? 1 + random.nextInt(2) : 1 + random.nextInt(8);
        int[] settings = {channels, 4 + random.nextInt(21), block(random), 1 + random.nextInt(655350)};
        int moments = random.nextInt(180 / channels + 1);
        int[] samples = sound(random, settings, moments);
        int[] coefficients = coefficients(random);
        int shift = coefficients.length == 2 ? 13 : random.nextInt(15);

        Model.Made due = Model.make(settings, samples, coefficients, shift);
        String name = "seed " + seed;
        SoundPacker x = filled(settings, samples, coefficients, shift);
        Check.due(name + ": make()", x.make(), due.bits().length() / 8);
        Check.due(name + ": frames", x.count(6), due.frames().size());
        compareWays(name, x, due);
        x.again();
        Check.due(name + ": read()", x.read(), samples.length);
        for (int i = 0; i < samples.length; i++) {
            Check.due(name + ": sample(" + i + ")", x.sample(i), samples[i]);
        }
        Check.due(name + ": RATE", x.count(4), settings[3]);
        // A new object for every 250 bytes, as no object is good for more than 512 calls.
        Bits stream = Bits.of(due.bits());
        for (int from = 0; from < stream.bytes(); from += 250) {
            SoundPacker y = filled(settings, samples, coefficients, shift);
            y.make();
            for (int i = from; i < Math.min(from + 250, stream.bytes()); i++) {
                Check.due(name + ": octet(" + i + ")", y.octet(i), stream.octet(i));
            }
        }
    }

    private static SoundPacker filled(int[] settings, int[] samples, int[] coefficients, int shift) {
        SoundPacker x = new SoundPacker();
        x.shape(settings[0], settings[1], settings[2], settings[3]);
        x.predict(shift);
        for (int c : coefficients) {
            x.coefficient(c);
        }
        for (int v : samples) {
            x.push(v);
        }
        return x;
    }

    private static void compareWays(String name, SoundPacker x, Model.Made due) {
        for (int f = 0; f < due.frames().size(); f++) {
            Model.Told[] told = due.frames().get(f);
            assignments[due.assignments().get(f)]++;
            for (int c = 0; c < told.length; c++) {
                String at = name + ": way(" + f + ", " + c + ", ";
                Check.due(at + "0)", x.way(f, c, 0), told[c].type());
                Check.due(at + "1)", x.way(f, c, 1), told[c].wasted());
                Check.due(at + "2)", x.way(f, c, 2), told[c].order());
                Check.due(at + "3)", x.way(f, c, 3), told[c].bits().length());
                Check.due(at + "4)", x.way(f, c, 4), due.assignments().get(f));
                types[told[c].type()]++;
                orders[told[c].order() + 1]++;
            }
        }
    }

    private static int block(Random random) {
        return random.nextBoolean() ? 16 << random.nextInt(5) : 16 + random.nextInt(100);
    }

    /** Two of them are those of a swing of some 0.35 a moment, which sound() makes too. */
    private static int[] coefficients(Random random) {
        if (random.nextBoolean()) {
            return new int[] {15398, -8192};
        }
        int[] c = new int[random.nextInt(9)];
        for (int j = 0; j < c.length; j++) {
            c[j] = random.nextInt(32768) - 16384;
        }
        return c;
    }

    private static int[] sound(Random random, int[] settings, int moments) {
        int limit = 1 << (settings[1] - 1);
        int kind = random.nextInt(9);
        double height = limit * random.nextDouble();
        if (random.nextBoolean()) {
            height = Math.min(height, 1 << random.nextInt(8));
        }
        int drop = random.nextInt(4) == 0 ? random.nextInt(settings[1]) : 0;
        double pace = random.nextDouble();
        int[] x = new int[moments * settings[0]];
        for (int i = 0; i < x.length; i++) {
            int t = i / settings[0];
            int c = i % settings[0];
            double v;
            switch (kind) {
                case 0: v = height * Math.sin(t * pace + c); break;
                case 1: v = height * (2 * random.nextDouble() - 1); break;
                case 2: v = c == 0 ? height * (2 * random.nextDouble() - 1) : x[i - 1] + random.nextInt(3) - 1; break;
                case 3: v = t / 30 * height / 5; break;
                case 4: v = height * Math.sin(0.3483 * t + c) + random.nextGaussian() * limit / 5000; break;
                case 5: v = (t % 40 < 20 ? 1 : height / 3) * random.nextGaussian(); break;
                case 6: v = random.nextBoolean() ? limit : -limit; break;
                case 7: v = (t - 20.0) * (t - 20.0) * (t - 30.0) * (kind + c) * height / limit; break;
                default: v = height * Math.sin(t * 0.02 + c) + height / 9 * Math.sin(t * 0.11); break;
            }
            x[i] = (int) Math.max(-limit, Math.min(limit - 1, Math.round(v))) >> drop << drop;
        }
        return x;
    }
}
