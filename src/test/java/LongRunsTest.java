import java.util.Map;
import java.util.Random;
import java.util.TreeMap;

/** All promises together: runs of 512 calls of every kind on one object, against a model of all that it holds. */
public final class LongRunsTest {
    private static final int CALLS = 512;
    private static final Map<String, Integer> cameUp = new TreeMap<>();

    private final int seed;
    private final Random random;
    private final SoundPacker packer = new SoundPacker();
    private final ModelPacker model = new ModelPacker();
    private int calls = 0;
    private boolean wrong = false;

    private LongRunsTest(int seed) {
        this.seed = seed;
        // Neighbouring seeds begin alike, so they are spread.
        random = new Random(seed * 0x9E3779B97F4A7C15L);
    }

    public static void main(String[] args) {
        for (int seed = 0; seed < 300; seed++) {
            new LongRunsTest(seed).run();
        }
        for (String call : new String[] {"shape", "predict", "coefficient", "push", "way", "read", "sample"}) {
            Check.holds(call + " was answered", cameUp.getOrDefault(call, 0) > 100);
            Check.holds(call + " was refused", cameUp.getOrDefault(call + " IllegalArgumentException", 0) > 100);
        }
        for (String call : new String[] {"coefficient", "push", "make"}) {
            Check.holds(call + " came too late", cameUp.getOrDefault(call + " IllegalStateException", 0) > 20);
        }
        Check.end();
    }

    private void run() {
        while (calls < CALLS && !wrong) {
            switch (random.nextInt(10)) {
                case 0: shape(); break;
                case 1: predictor(); break;
                case 2: case 3: sound(); break;
                case 4: case 5: tape(new RandomStream(random.nextLong()), random.nextInt(20) - 8); break;
                case 6: longTape(); break;
                case 7: again(); break;
                case 8: call("make"); break;
                default: look(); break;
            }
            look();
        }
    }

    /** Answers behind the first wrong one tell nothing new, nor do calls behind the 512th. */
    private void call(String name, long... numbers) {
        if (wrong || calls == CALLS) {
            return;
        }
        calls++;
        Call c = new Call(name, numbers);
        String due = model.answer(c);
        String got = c.on(packer);
        wrong = !got.equals(due);
        Check.due("seed " + seed + ", call " + calls + ": " + c, got, due);
        cameUp.merge(due.startsWith("Illegal") ? name + " " + due : name, 1, Integer::sum);
    }

    private int any(int... numbers) {
        return numbers[random.nextInt(numbers.length)];
    }

    private int anyUpTo(int most) {
        return random.nextInt(most + 1);
    }

    private void shape() {
        if (random.nextInt(3) == 0) {
            call("shape", anyUpTo(9), any(3, 4, 24, 25), any(15, 16, 256, 257), any(0, 1, 655350, 655351));
        } else {
            call("shape", any(1, 2, 2, 3, 8), 4 + anyUpTo(20), any(16, 17, 24, 32, 64, 256), 1 + anyUpTo(655349));
        }
    }

    private void predictor() {
        call("predict", any(-1, 0, 7, 13, 13, 14, 15));
        if (random.nextBoolean()) {
            call("coefficient", 15398);
            call("coefficient", -8192);
        }
        for (int j = any(0, 0, 1, 6, 9); j > 0; j--) {
            call("coefficient", any(-16385, -16384, 16383, 16384, anyUpTo(16383), -anyUpTo(16384)));
        }
    }

    private void sound() {
        int channels = model.settings[0];
        int limit = 1 << (model.settings[1] - 1);
        int[] edges = {-limit - 1, -limit, limit - 1, limit, Integer.MIN_VALUE, Integer.MAX_VALUE};
        double height = random.nextDouble() * any(limit, limit, Math.min(limit, 20));
        int noise = any(0, 0, 1, 30);
        int drop = any(0, 0, 0, 1, 3);
        int samples = channels * Math.min(any(1, 5, 16, 40, 64, 100), 120 / channels);
        for (int i = 0; i < samples; i++) {
            int v = (int) (height * Math.sin(0.3483 * (i / channels))) + anyUpTo(noise);
            call("push", Math.max(-limit, Math.min(limit - 1, v)) >> drop << drop);
        }
        if (random.nextInt(4) == 0) {
            call("push", any(edges));
        }
        call("make");
    }

    private void tape(RandomStream stream, int harm) {
        feedAndRead(harm < 0 ? stream.bits : stream.harmed(random, harm));
    }

    /** Few bytes that are many samples: up to all 4096, and one moment more. */
    private void longTape() {
        int channels = any(1, 1, 2, 8);
        int moments = 4096 / channels + any(-40, -1, 0, 0, 1);
        int[] numbers = new int[channels];
        for (int c = 0; c < channels; c++) {
            numbers[c] = anyUpTo(15) - 8;
        }
        int block = any(128, 255, 256);
        feedAndRead(new Bits().head(channels, 4, block, 8000, moments).frames(4, block, moments, numbers));
        call("push", any(-8, 7, 8));
    }

    private void feedAndRead(Bits stream) {
        for (int i = 0; i < stream.bytes(); i += 8) {
            call("feed", stream.word(i), Math.min(8, stream.bytes() - i));
        }
        call("read");
        call("fault");
        call("place");
        if (random.nextBoolean()) {
            call("make");
        }
    }

    private void again() {
        call("again");
        if (random.nextInt(4) == 0) {
            call("feed", random.nextLong(), any(-1, 0, 1, 8, 9));
        }
        if (random.nextInt(4) > 0) {
            call("read");
        }
    }

    private void look() {
        int bytes = model.made.bits().length() / 8;
        int frames = model.made.frames().size();
        int samples = model.samples.size();
        for (int i = random.nextInt(5); i >= 0; i--) {
            switch (random.nextInt(6)) {
                case 0: call("count", anyUpTo(10) - 1); break;
                case 1: call("octet", any(-1, 0, bytes - 1, bytes, anyUpTo(bytes))); break;
                case 2: call("way", any(-1, 0, 0, frames - 1, frames, anyUpTo(frames)), any(-1, 0, 0, 1, 8), anyUpTo(6) - 1); break;
                case 3: call("sample", any(-1, 0, samples - 1, samples, anyUpTo(samples))); break;
                case 4: call("fault"); break;
                default: call("place"); break;
            }
        }
    }
}
