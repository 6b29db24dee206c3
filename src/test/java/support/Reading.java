/** What tests of streams that are read have in common. */
final class Reading {
    private Reading() {
    }

    static void good(String name, Bits b, int... samples) {
        SoundPacker x = new SoundPacker();
        Check.holds(name + ": feed", b.feedTo(x));
        Check.due(name + ": read()", x.read(), samples.length);
        Check.due(name + ": count(0)", x.count(0), samples.length);
        for (int i = 0; i < samples.length; i++) {
            Check.due(name + ": sample(" + i + ")", x.sample(i), samples[i]);
        }
        Check.badArgument(name + ": the next sample", () -> x.sample(samples.length));
        Check.due(name + ": fault()", x.fault(), 0);
        Check.due(name + ": place()", x.place(), -1);
        Check.due(name + ": the tape", x.count(7), 0);
    }

    static void bad(String name, Bits b, int fault, int place) {
        SoundPacker x = new SoundPacker();
        Check.holds(name + ": feed", b.feedTo(x));
        Check.badArgument(name + ": read()", x::read);
        Check.due(name + ": fault()", x.fault(), fault);
        Check.due(name + ": place()", x.place(), place);
        Check.due(name + ": the tape", x.count(7), 0);
        Check.due(name + ": samples", x.count(0), 0);
        Check.due(name + ": BLOCK", x.count(3), 64);
    }
}
