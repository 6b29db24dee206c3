import java.util.Random;

/** Promises 11 to 14: streams of all kinds, whole and harmed, are read as the document's model reads them. */
public final class ReadAgainstModelTest {
    private static final int[] faults = new int[5];

    public static void main(String[] args) {
        for (int seed = 0; seed < 400; seed++) {
            RandomStream stream = new RandomStream(seed * 0x9E3779B97F4A7C15L);
            compare("seed " + seed, stream.bits);
            Random random = new Random(~seed * 0x9E3779B97F4A7C15L);
            for (int k = 0; k < 12; k++) {
                compare("seed " + seed + ", harm " + k, stream.harmed(random, k));
            }
        }
        System.out.println("faults 0 to 4 came up: " + java.util.Arrays.toString(faults));
        for (int kind = 0; kind <= 4; kind++) {
            Check.holds("fault " + kind + " came up often", faults[kind] > 100);
        }
        Check.end();
    }

    private static void compare(String name, Bits stream) {
        ModelReader due = new ModelReader(stream.text());
        faults[due.fault]++;
        SoundPacker x = new SoundPacker();
        x.push(-7);
        Check.holds(name + ": feed", stream.feedTo(x));
        if (due.fault == 0) {
            Check.due(name + ": read()", x.read(), due.samples.length);
            Check.due(name + ": CHANNELS", x.count(1), due.channels);
            Check.due(name + ": BITS", x.count(2), due.width);
            Check.due(name + ": BLOCK", x.count(3), due.block);
            Check.due(name + ": RATE", x.count(4), due.rate);
            Check.due(name + ": samples", x.count(0), due.samples.length);
            for (int i = 0; i < due.samples.length; i++) {
                Check.due(name + ": sample(" + i + ")", x.sample(i), due.samples[i]);
            }
        } else {
            Check.badArgument(name + ": read()", x::read);
            Check.due(name + ": samples stay", x.count(0), 1);
            Check.due(name + ": sample(0) stays", x.sample(0), -7);
            Check.due(name + ": CHANNELS stay", x.count(1), 1);
            Check.due(name + ": BITS stay", x.count(2), 16);
            Check.due(name + ": BLOCK stays", x.count(3), 64);
            Check.due(name + ": RATE stays", x.count(4), 44100);
        }
        Check.due(name + ": fault()", x.fault(), due.fault);
        Check.due(name + ": place()", x.place(), due.place);
        Check.due(name + ": the tape", x.count(7), 0);
    }
}
