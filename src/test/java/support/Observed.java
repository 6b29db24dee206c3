import java.util.ArrayList;
import java.util.List;
import java.util.function.Consumer;

/** All that an object tells of itself, and what is made of it and read of its tape from there on. */
final class Observed {
    private final SoundPacker x;
    private final boolean withFault;
    private final List<String> told = new ArrayList<>();

    private Observed(SoundPacker x, boolean withFault) {
        this.x = x;
        this.withFault = withFault;
        look(60);
        tell("make()", outcome(() -> tell("made", x.make())));
        look(100);
        tell("read()", outcome(() -> tell("read", x.read())));
        tell("fault()", x.fault());
        tell("place()", x.place());
        look(0);
    }

    private void look(int octets) {
        for (int what = 0; what <= 8; what++) {
            tell("count(" + what + ")", x.count(what));
        }
        if (withFault) {
            tell("fault()", x.fault());
            tell("place()", x.place());
        }
        int samples = Math.min(20, x.count(0));
        int bytes = Math.min(octets, x.count(5));
        int ways = x.count(6) > 0 ? 5 : 0;
        for (int i = 0; i < samples; i++) {
            tell("sample(" + i + ")", x.sample(i));
        }
        for (int i = 0; i < bytes; i++) {
            tell("octet(" + i + ")", x.octet(i));
        }
        for (int what = 0; what < ways; what++) {
            tell("way(0, 0, " + what + ")", x.way(0, 0, what));
        }
    }

    private void tell(String what, Object answer) {
        told.add(what + " = " + answer);
    }

    private static String outcome(Runnable call) {
        try {
            call.run();
            return "answered";
        } catch (RuntimeException e) {
            return e.getClass().getSimpleName();
        }
    }

    /**
     * An object that has some of everything: a predictor of two coefficients that is the shortest way for its
     * samples, a stream of fewer samples than there are now, a tape that ends behind its eighth byte, a fault.
     */
    static void fill(SoundPacker x) {
        x.shape(1, 16, 32, 11025);
        x.predict(14);
        x.coefficient(-16384);
        x.coefficient(0);
        for (int i = 0; i < 24; i++) {
            x.push(i % 2 == 0 ? 12345 : -12345);
        }
        x.make();
        x.push(12345);
        x.feed(-1L, 8);
        Check.badArgument("read() of bits 1", x::read);
        x.feed(0x664C614380000022L, 8);
    }

    /** Of two objects that are alike the call is made on one: nothing tells them apart behind it. */
    static void leftAsItWas(String name, Consumer<SoundPacker> before, Consumer<SoundPacker> call) {
        SoundPacker x = new SoundPacker();
        before.accept(x);
        call.accept(x);
        SoundPacker twin = new SoundPacker();
        before.accept(twin);
        alike(name + " leaves all as it was", x, twin);
    }

    static void alike(String name, SoundPacker x, SoundPacker twin) {
        compare(name, new Observed(x, true), new Observed(twin, true));
    }

    /** What fault() and place() tell ahead of the next read() may differ. */
    static void alikeButForFault(String name, SoundPacker x, SoundPacker twin) {
        compare(name, new Observed(x, false), new Observed(twin, false));
    }

    private static void compare(String name, Observed got, Observed want) {
        String difference = "";
        for (int i = 0; i < Math.max(got.told.size(), want.told.size()) && difference.isEmpty(); i++) {
            String g = i < got.told.size() ? got.told.get(i) : "nothing";
            String w = i < want.told.size() ? want.told.get(i) : "nothing";
            difference = g.equals(w) ? "" : ": " + g + ", due is " + w;
        }
        Check.holds(name + difference, difference.isEmpty());
    }
}
