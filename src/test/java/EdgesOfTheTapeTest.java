import java.util.function.Consumer;

/** Promises 9 to 11 at their edges, as far as the tape goes. */
public final class EdgesOfTheTapeTest {
    public static void main(String[] args) {
        oneToEightBytes();
        refusedFeeds();
        bytesFromTheHighestOn();
        behindTheTape();
        tapeOf20000();
        againWithoutStream();
        againInPlaceOfTheTape();
        againOfTheLatest();
        emptyBehindRead();
        Check.end();
    }

    /** "The first n (1 .. 8) bytes of w" */
    private static void oneToEightBytes() {
        for (int n = 1; n <= 8; n++) {
            SoundPacker x = new SoundPacker();
            Check.holds("feed of " + n, x.feed(Long.MIN_VALUE, n));
            Check.due("the tape", x.count(7), n);
            Check.holds("feed of " + n + " more", x.feed(Long.MAX_VALUE, n));
            Check.due("the tape", x.count(7), 2 * n);
        }
    }

    /** "false if not (nothing is put)" */
    private static void refusedFeeds() {
        int[] wrong = {0, 9, -1, -8, 16, 256, 257, 65537, -65535, Integer.MIN_VALUE, Integer.MIN_VALUE + 1, Integer.MAX_VALUE};
        for (int n : wrong) {
            String name = "feed of " + n;
            Observed.leftAsItWas(name, Observed::fill, x -> {
                Check.holds(name + " is refused", !x.feed(0x664C614380000022L, n));
                Check.due(name + ": the tape", x.count(7), 8);
            });
            SoundPacker x = new SoundPacker();
            Check.holds(name + " on an empty tape is refused", !x.feed(-1L, n));
            Check.due(name + " on an empty tape", x.count(7), 0);
        }
    }

    private static Bits whole() {
        return new Bits().head(2, 8, 16, 8000, 1).frame(1, 0, 1).subframe(0).put(8, -100).subframe(0).put(8, 99).endFrame();
    }

    private static void readsWhole(String name, SoundPacker x) {
        Check.due(name + ": the tape", x.count(7), whole().bytes());
        Check.due(name + ": read()", x.read(), 2);
        Check.due(name + ": sample(0)", x.sample(0), -100);
        Check.due(name + ": sample(1)", x.sample(1), 99);
    }

    /** "from the highest on": what stands in w behind the n bytes is left out, whatever it is. */
    private static void bytesFromTheHighestOn() {
        Bits b = whole();
        for (int size = 1; size <= 8; size++) {
            for (long rest : new long[] {0L, -1L, 0x5555555555555555L}) {
                SoundPacker x = new SoundPacker();
                for (int i = 0; i < b.bytes(); i += size) {
                    int n = Math.min(size, b.bytes() - i);
                    long w = n == 8 ? 0 : rest >>> (8 * n);
                    for (int j = 0; j < n; j++) {
                        w |= (long) b.octet(i + j) << (56 - 8 * j);
                    }
                    x.feed(w, n);
                }
                readsWhole("pieces of " + size, x);
            }
        }
    }

    /** Refused ones between the pieces leave no gap. */
    private static void behindTheTape() {
        Bits b = whole();
        SoundPacker x = new SoundPacker();
        for (int i = 0; i < b.bytes(); i++) {
            x.feed((long) b.octet(i) << 56, 1);
            x.feed(-1L, 0);
            x.feed(-1L, 9);
        }
        readsWhole("one by one", x);
    }

    /** "the tape, which has at most 20000 bytes": more calls than an object is good for, and kept all the same. */
    private static void tapeOf20000() {
        for (int last = 1; last <= 8; last++) {
            SoundPacker x = new SoundPacker();
            for (int i = 0; i < 2499; i++) {
                x.feed(0x664C614380000022L, 8);
            }
            for (int i = last; i < 8; i++) {
                x.feed(0, 1);
            }
            Check.due("the tape", x.count(7), 20000 - last);
            for (int n = 8; n > last; n--) {
                Check.holds(n + " bytes are too many for " + last, !x.feed(-1L, n));
                Check.due("the tape", x.count(7), 20000 - last);
            }
            Check.holds("just " + last + " bytes", x.feed(-1L, last));
            Check.due("the tape", x.count(7), 20000);
            for (int n = 1; n <= 8; n++) {
                Check.holds(n + " bytes behind a full tape", !x.feed(-1L, n));
                Check.due("the tape", x.count(7), 20000);
            }
            Check.badArgument("read() of a full tape", x::read);
            Check.due("fault()", x.fault(), 2);
            Check.due("place()", x.place(), 64);
            Check.due("the tape behind read()", x.count(7), 0);
            Check.holds("feed behind read()", x.feed(-1L, 8));
        }
    }

    /** "The stream that was made latest is the tape": none was made. */
    private static void againWithoutStream() {
        SoundPacker x = new SoundPacker();
        x.push(5);
        x.feed(-1L, 3);
        Check.due("again()", x.again(), 0);
        Check.due("the tape", x.count(7), 0);
        Check.due("samples stay", x.count(0), 1);
        Check.badArgument("read()", x::read);
        Check.due("fault()", x.fault(), 1);
        Check.due("place()", x.place(), 0);
        SoundPacker y = new SoundPacker();
        y.shape(2, 16, 16, 8000);
        y.push(5);
        Check.badState("a refused make()", y::make);
        Check.due("again() behind a refused make()", y.again(), 0);
    }

    /** It is the tape: what was on it is gone, be it shorter or longer. */
    private static void againInPlaceOfTheTape() {
        for (int fed : new int[] {0, 1, 41, 42, 43, 200}) {
            SoundPacker x = new SoundPacker();
            x.make();
            for (int i = 0; i < fed; i++) {
                x.feed(-1L, 1);
            }
            Check.due("again() over " + fed, x.again(), 42);
            Check.due("the tape", x.count(7), 42);
            Check.due("again() twice", x.again(), 42);
            Check.due("the tape", x.count(7), 42);
            Check.due("read()", x.read(), 0);
            Check.due("again() behind read()", x.again(), 42);
            x.feed(0, 1);
            Check.badArgument("a byte behind the stream", x::read);
            Check.due("fault()", x.fault(), 2);
            Check.due("place()", x.place(), 336);
            Check.due("the stream stays", x.again(), 42);
            Check.due("read()", x.read(), 0);
        }
    }

    /** Only make() changes it, and make() leaves the tape alone. */
    private static void againOfTheLatest() {
        SoundPacker x = Making.packer(1, 8, 16, 100, 100);
        int first = x.make();
        x.again();
        x.shape(2, 16, 32, 9000);
        x.push(1);
        Check.badState("a refused make()", x::make);
        x.push(-30000);
        Check.due("again() of the first", x.again(), first);
        int second = x.make();
        Check.due("the tape is still the first", x.count(7), first);
        Check.due("read() of the first", x.read(), 2);
        Check.due("CHANNELS of the first", x.count(1), 1);
        Check.due("sample(1) of the first", x.sample(1), 100);
        Check.due("again() of the second", x.again(), second);
        Check.due("read() of the second", x.read(), 2);
        Check.due("CHANNELS of the second", x.count(1), 2);
        Check.due("sample(1) of the second", x.sample(1), -30000);
    }

    /** "The tape, which is empty then (also if this throws)" */
    private static void emptyBehindRead() {
        Bits b = whole();
        Consumer<SoundPacker> nothingLeft = x -> {
            Check.due("the tape", x.count(7), 0);
            Check.badArgument("read() of nothing", x::read);
            Check.due("fault() of nothing", x.fault(), 1);
            Check.due("place() of nothing", x.place(), 0);
            Check.due("the tape", x.count(7), 0);
        };
        SoundPacker x = new SoundPacker();
        b.feedTo(x);
        x.read();
        nothingLeft.accept(x);
        Check.due("samples stay", x.count(0), 2);
        for (int fault = 1; fault <= 4; fault++) {
            Bits wrong = b.copy();
            switch (fault) {
                case 1: wrong.cut(b.bytes() - 1); break;
                case 2: wrong.put(8, 0); break;
                case 3: wrong.flip(b.length() - 1); break;
                default: wrong.set(172, 36, 4097); break;
            }
            wrong.feedTo(x);
            Check.badArgument("read()", x::read);
            Check.due("fault()", x.fault(), fault);
            nothingLeft.accept(x);
            b.feedTo(x);
            readsWhole("behind fault " + fault, x);
        }
    }
}
