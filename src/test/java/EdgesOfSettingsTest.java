import java.util.function.Consumer;

/** Promises 1 to 5, 14 and 15 at their edges: a test for each sentence that names one. */
public final class EdgesOfSettingsTest {
    private static final int LEAST = Integer.MIN_VALUE;
    private static final int MOST = Integer.MAX_VALUE;
    /** What becomes a number within the limits where only its lowest 8 or 16 bits are looked at. */
    private static final int[] TURNS = {256, 65536, 1 << 24, LEAST};

    public static void main(String[] args) {
        atFirst();
        noSamplesNoStreams();
        channels();
        bits();
        block();
        rate();
        severalWrongSettings();
        noSamplesBehindShape();
        shift();
        noCoefficientsBehindPredict();
        coefficients();
        eightCoefficients();
        wrongAndOneTooMany();
        samplesOfSoManyBits();
        bitsOfTheLatestSettings();
        rowOf4096();
        sampleThereIs();
        sampleThereIsNone();
        counts();
        Check.end();
    }

    private static void refused(String name, Consumer<SoundPacker> call) {
        Observed.leftAsItWas(name, Observed::fill, x -> Check.badArgument(name, () -> call.accept(x)));
    }

    /** "SETTINGS: .. at first 1, 16, 64, 44100. A PREDICTOR: .. at first no coefficients, 0." */
    private static void atFirst() {
        SoundPacker x = new SoundPacker();
        int[] due = {0, 1, 16, 64, 44100, 0, 0, 0, 0};
        for (int what = 0; what < due.length; what++) {
            Check.due("at first: count(" + what + ")", x.count(what), due[what]);
        }
        SoundPacker twin = new SoundPacker();
        twin.shape(1, 16, 64, 44100);
        twin.predict(0);
        for (SoundPacker y : new SoundPacker[] {x, twin}) {
            y.coefficient(-1);
            for (int i = 0; i < 66; i++) {
                y.push(i % 2 == 0 ? 12345 : -12345);
            }
        }
        Observed.alike("a new object and one that is told the same", x, twin);
    }

    /** "No samples, no streams." */
    private static void noSamplesNoStreams() {
        SoundPacker x = new SoundPacker();
        for (int i : new int[] {-1, 0, 1}) {
            Check.badArgument("new: sample(" + i + ")", () -> x.sample(i));
            Check.due("new: octet(" + i + ")", x.octet(i), -1);
            Check.badArgument("new: way(" + i + ", 0, 0)", () -> x.way(i, 0, 0));
        }
        Check.due("new: fault()", x.fault(), 0);
        Check.due("new: place()", x.place(), -1);
        Check.due("new: again()", x.again(), 0);
        Check.badArgument("new: read()", x::read);
        Check.due("new: fault() behind read()", x.fault(), 1);
        Check.due("new: place() behind read()", x.place(), 0);
    }

    private static void goodShape(int channels, int bits, int block, int rate) {
        SoundPacker x = new SoundPacker();
        String name = "shape(" + channels + ", " + bits + ", " + block + ", " + rate + ")";
        x.shape(channels, bits, block, rate);
        Check.due(name + ": CHANNELS", x.count(1), channels);
        Check.due(name + ": BITS", x.count(2), bits);
        Check.due(name + ": BLOCK", x.count(3), block);
        Check.due(name + ": RATE", x.count(4), rate);
    }

    private static void badShape(int channels, int bits, int block, int rate) {
        refused("shape(" + channels + ", " + bits + ", " + block + ", " + rate + ")",
                x -> x.shape(channels, bits, block, rate));
    }

    /** "CHANNELS 1 .. 8" */
    private static void channels() {
        for (int c = 1; c <= 8; c++) {
            goodShape(c, 16, 64, 44100);
        }
        for (int c : new int[] {0, 9, -1, -8, LEAST, MOST}) {
            badShape(c, 16, 64, 44100);
        }
        for (int turn : TURNS) {
            badShape(turn + 1, 16, 64, 44100);
            badShape(turn + 8, 16, 64, 44100);
        }
    }

    /** "BITS 4 .. 24" */
    private static void bits() {
        for (int b = 4; b <= 24; b++) {
            goodShape(1, b, 64, 44100);
        }
        for (int b : new int[] {3, 25, 0, -4, LEAST, MOST}) {
            badShape(1, b, 64, 44100);
        }
        for (int turn : TURNS) {
            badShape(1, turn + 4, 64, 44100);
            badShape(1, turn + 24, 64, 44100);
        }
    }

    /** "BLOCK 16 .. 256" */
    private static void block() {
        for (int b : new int[] {16, 17, 255, 256}) {
            goodShape(1, 16, b, 44100);
        }
        for (int b : new int[] {15, 257, 0, -16, LEAST, MOST}) {
            badShape(1, 16, b, 44100);
        }
        for (int turn : TURNS) {
            badShape(1, 16, turn + 16, 44100);
            badShape(1, 16, turn + 256, 44100);
        }
    }

    /** "RATE 1 .. 655350" */
    private static void rate() {
        for (int r : new int[] {1, 2, 65535, 65536, 655349, 655350}) {
            goodShape(1, 16, 64, r);
        }
        for (int r : new int[] {0, 655351, -1, -655350, (1 << 20) + 1, (1 << 24) + 1, LEAST + 1, LEAST, MOST}) {
            badShape(1, 16, 64, r);
        }
    }

    /** "IllegalArgumentException: a number is none of those told", wherever the others stand. */
    private static void severalWrongSettings() {
        goodShape(1, 4, 16, 1);
        goodShape(8, 24, 256, 655350);
        int[][] good = {{1, 4, 16, 1}, {8, 24, 256, 655350}};
        int[][] bad = {{0, 3, 15, 0}, {9, 25, 257, 655351}};
        for (int i = 0; i < 4; i++) {
            for (int end = 0; end < 2; end++) {
                int[] s = good[1 - end].clone();
                s[i] = bad[end][i];
                badShape(s[0], s[1], s[2], s[3]);
                int[] t = bad[1 - end].clone();
                t[i] = good[end][i];
                badShape(t[0], t[1], t[2], t[3]);
            }
        }
        badShape(0, 3, 15, 0);
        badShape(9, 25, 257, 655351);
    }

    /** "SETTINGS; the samples are none then": also if the settings are those that were, and nothing else goes. */
    private static void noSamplesBehindShape() {
        SoundPacker x = new SoundPacker();
        Observed.fill(x);
        int made = x.count(5);
        x.shape(1, 16, 32, 11025);
        int[] due = {0, 1, 16, 32, 11025, made, 1, 8, 2};
        for (int what = 0; what < due.length; what++) {
            Check.due("behind shape: count(" + what + ")", x.count(what), due[what]);
        }
        Check.badArgument("behind shape: sample(0)", () -> x.sample(0));
        Check.due("behind shape: fault()", x.fault(), 2);
        Check.due("behind shape: place()", x.place(), 0);
        Check.due("behind shape: octet(0)", x.octet(0), 0x66);
        Check.due("behind shape: way(0, 0, 0)", x.way(0, 0, 0), 33);
        for (int i = 0; i < 24; i++) {
            x.push(i % 2 == 0 ? 12345 : -12345);
        }
        Check.due("the predictor stays behind shape", x.make(), made);
        Check.due("its type", x.way(0, 0, 0), 33);
    }

    /** "a SHIFT 0 .. 14" */
    private static void shift() {
        for (int s = 0; s <= 14; s++) {
            SoundPacker x = new SoundPacker();
            x.predict(s);
            x.coefficient(-(1 << s));
            for (int i = 0; i < 24; i++) {
                x.push(i % 2 == 0 ? 12345 : -12345);
            }
            x.make();
            // One number of 16 bits, the coefficient of 15, 23 residuals that are 0.
            Check.due("shift " + s + ": type", x.way(0, 0, 0), 32);
            Check.due("shift " + s + ": bits", x.way(0, 0, 3), 8 + 16 + 9 + 15 + 10 + 23);
        }
        for (int s : new int[] {-1, 15, 16, 31, LEAST, MOST}) {
            refused("predict(" + s + ")", x -> x.predict(s));
        }
        for (int turn : TURNS) {
            refused("predict(" + (turn + 14) + ")", x -> x.predict(turn + 14));
            refused("predict(" + turn + ")", x -> x.predict(turn));
        }
    }

    /** "The predictor has no coefficients, and this shift": nothing else goes, and the old shift is gone. */
    private static void noCoefficientsBehindPredict() {
        SoundPacker x = new SoundPacker();
        Observed.fill(x);
        x.predict(13);
        Check.due("behind predict: coefficients", x.count(8), 0);
        Check.due("behind predict: samples", x.count(0), 25);
        x.coefficient(-8192);
        x.coefficient(0);
        SoundPacker twin = new SoundPacker();
        Observed.fill(twin);
        twin.predict(14);
        twin.coefficient(1);
        twin.predict(13);
        twin.coefficient(-8192);
        twin.coefficient(0);
        Observed.alike("predict twice", x, twin);
        Check.due("the new predictor is used", x.way(0, 0, 0), 33);
        SoundPacker none = new SoundPacker();
        Observed.fill(none);
        none.predict(14);
        none.make();
        Check.due("no predictor of one's own is used", none.way(0, 0, 0), 1);
    }

    /** "COEFFICIENTS c0, c1, .. from -16384 to 16383" */
    private static void coefficients() {
        for (int c : new int[] {-16384, -16383, -1, 0, 1, 16382, 16383}) {
            SoundPacker x = new SoundPacker();
            x.coefficient(c);
            Check.due("coefficient(" + c + ")", x.count(8), 1);
        }
        for (int c : new int[] {-16385, 16384, 32768, -32768, 65535, LEAST, MOST}) {
            refused("coefficient(" + c + ")", x -> x.coefficient(c));
        }
        for (int turn : TURNS) {
            refused("coefficient(" + (turn + 16384) + ")", x -> x.coefficient(turn + 16384));
        }
    }

    /** "at most 8 COEFFICIENTS", "IllegalStateException: there are eight." */
    private static void eightCoefficients() {
        Consumer<SoundPacker> eight = x -> {
            Observed.fill(x);
            for (int c = 3; c <= 8; c++) {
                x.coefficient(0);
                Check.due("coefficients", x.count(8), c);
            }
        };
        Observed.leftAsItWas("a ninth coefficient", eight, x -> Check.badState("a ninth coefficient", () -> x.coefficient(5)));
        Observed.leftAsItWas("more coefficients", eight, x -> {
            for (int c : new int[] {-16384, 0, 16383}) {
                Check.badState("a ninth coefficient " + c, () -> x.coefficient(c));
            }
        });
        SoundPacker x = new SoundPacker();
        eight.accept(x);
        x.make();
        Check.due("eight coefficients are used", x.way(0, 0, 0), 39);
        x.predict(0);
        for (int c = 1; c <= 8; c++) {
            x.coefficient(1);
            Check.due("coefficients behind predict", x.count(8), c);
        }
        Check.badState("a ninth behind predict", () -> x.coefficient(1));
    }

    /** "Of several exceptions that apply the first one listed is thrown, and nothing changes". */
    private static void wrongAndOneTooMany() {
        Consumer<SoundPacker> eight = x -> {
            Observed.fill(x);
            for (int c = 3; c <= 8; c++) {
                x.coefficient(0);
            }
        };
        for (int c : new int[] {-16385, 16384}) {
            Observed.leftAsItWas("a wrong ninth coefficient", eight,
                    x -> Check.badArgument("a wrong ninth coefficient " + c, () -> x.coefficient(c)));
        }
        for (int v : new int[] {-32769, 32768}) {
            Observed.leftAsItWas("a wrong sample too many", EdgesOfSettingsTest::fillRow,
                    x -> Check.badArgument("a wrong sample too many: " + v, () -> x.push(v)));
        }
    }

    /** "a sample is from -2^(BITS - 1) to 2^(BITS - 1) - 1", "IllegalArgumentException: it isn't of BITS bits." */
    private static void samplesOfSoManyBits() {
        for (int bits = 4; bits <= 24; bits++) {
            int limit = 1 << (bits - 1);
            Consumer<SoundPacker> edges = shaped(bits);
            SoundPacker x = new SoundPacker();
            edges.accept(x);
            int[] due = {-limit, -limit + 1, -1, 0, 1, limit - 2, limit - 1};
            Check.due(bits + " bits: samples", x.count(0), due.length);
            for (int i = 0; i < due.length; i++) {
                Check.due(bits + " bits: sample(" + i + ")", x.sample(i), due[i]);
            }
            int[] wrong = {-limit - 1, limit, 2 * limit, 2 * limit - 1, -2 * limit, LEAST, LEAST + limit - 1, MOST, MOST - limit + 1};
            for (int v : wrong) {
                String name = bits + " bits: push(" + v + ")";
                Observed.leftAsItWas(name, edges, y -> Check.badArgument(name, () -> y.push(v)));
            }
        }
    }

    private static Consumer<SoundPacker> shaped(int bits) {
        int limit = 1 << (bits - 1);
        return x -> {
            x.shape(1, bits, 16, 8000);
            for (int v : new int[] {-limit, -limit + 1, -1, 0, 1, limit - 2, limit - 1}) {
                x.push(v);
            }
        };
    }

    /** BITS are those of the latest shape() or read(). */
    private static void bitsOfTheLatestSettings() {
        SoundPacker x = new SoundPacker();
        x.push(32767);
        x.shape(1, 8, 16, 8000);
        Check.badArgument("128 is not of 8 bits", () -> x.push(128));
        x.push(127);
        new Bits().head(1, 4, 16, 8000, 0).feedTo(x);
        x.read();
        Check.badArgument("8 is not of 4 bits", () -> x.push(8));
        Check.badArgument("-9 is not of 4 bits", () -> x.push(-9));
        x.push(-8);
        x.push(7);
        Check.badArgument("a refused shape", () -> x.shape(1, 24, 15, 8000));
        Check.badArgument("8 is still not of 4 bits", () -> x.push(8));
        new Bits().head(1, 24, 16, 8000, 1).feedTo(x);
        Check.badArgument("a refused read", x::read);
        Check.badArgument("8 is still not of 4 bits", () -> x.push(8));
        x.shape(1, 24, 16, 8000);
        x.push(8388607);
        Check.badArgument("8388608 is not of 24 bits", () -> x.push(8388608));
    }

    /** 4095 samples of numbers that are all one in a frame, and one pushed: 512 calls can't push so many. */
    private static void fillRow(SoundPacker x) {
        almostFillRow(x);
        x.push(-32768);
    }

    private static void almostFillRow(SoundPacker x) {
        Bits b = new Bits().head(1, 16, 256, 44100, 4095);
        for (int f = 0; f < 16; f++) {
            b.frame(0, f, f < 15 ? 256 : 255).put(1, 0).put(6, 0).put(1, 0).put(16, 100 - f).endFrame();
        }
        b.feedTo(x);
        Check.due("read()", x.read(), 4095);
    }

    /** "SAMPLES stand in a row of at most 4096 numbers", "IllegalStateException: there are 4096." */
    private static void rowOf4096() {
        SoundPacker x = new SoundPacker();
        almostFillRow(x);
        x.push(32767);
        Check.due("samples", x.count(0), 4096);
        Check.due("sample(4094)", x.sample(4094), 85);
        Check.due("sample(4095)", x.sample(4095), 32767);
        for (int v : new int[] {-32768, 0, 32767}) {
            Observed.leftAsItWas("push(" + v + ") of sample 4097", EdgesOfSettingsTest::fillRow,
                    y -> Check.badState("push(" + v + ") of sample 4097", () -> y.push(v)));
        }
        Check.badState("sample 4097", () -> x.push(1));
        Check.due("samples", x.count(0), 4096);
        Check.due("sample(0)", x.sample(0), 100);
        Check.due("sample(4095)", x.sample(4095), 32767);
        Check.badArgument("sample(4096)", () -> x.sample(4096));
        x.make();
        Check.due("frames", x.count(6), 16);
        x.shape(1, 16, 256, 44100);
        x.push(1);
        Check.due("a new row", x.count(0), 1);
        for (int channels = 1; channels <= 8; channels++) {
            fullRowOf(channels);
        }
    }

    /** Behind a stream of as many moments as there can be, what is left of 4096 is pushed, and no more. */
    private static void fullRowOf(int channels) {
        int moments = 4096 / channels;
        Bits b = new Bits().head(channels, 8, 256, 8000, moments);
        for (int f = 0; f * 256 < moments; f++) {
            b.frame(channels - 1, f, Math.min(256, moments - 256 * f));
            for (int c = 0; c < channels; c++) {
                b.put(1, 0).put(6, 0).put(1, 0).put(8, 10 * c + f % 10);
            }
            b.endFrame();
        }
        SoundPacker x = new SoundPacker();
        b.feedTo(x);
        Check.due(channels + " channels: read()", x.read(), moments * channels);
        for (int i = moments * channels; i < 4096; i++) {
            x.push(-1);
            Check.due(channels + " channels: the last sample", x.sample(i), -1);
        }
        Check.badState(channels + " channels: sample 4097", () -> x.push(1));
        Check.due(channels + " channels: samples", x.count(0), 4096);
        for (int i = 0; i < moments * channels; i += 1 + moments / 10) {
            Check.due(channels + " channels: sample(" + i + ")", x.sample(i), 10 * (i % channels) + i / channels / 256 % 10);
        }
    }

    /** "Sample i." */
    private static void sampleThereIs() {
        SoundPacker x = new SoundPacker();
        for (int many = 1; many <= 20; many++) {
            x.push(100 * many);
            Check.due("the first of " + many, x.sample(0), 100);
            Check.due("the last of " + many, x.sample(many - 1), 100 * many);
            int next = many;
            Check.badArgument("the one behind the last of " + many, () -> x.sample(next));
        }
    }

    /** "IllegalArgumentException: there is none." */
    private static void sampleThereIsNone() {
        for (int i : new int[] {-1, 25, 26, 4095, 4096, 65536, -65536, LEAST, LEAST + 1, MOST}) {
            refused("sample(" + i + ")", x -> x.sample(i));
        }
        SoundPacker y = new SoundPacker();
        y.push(1);
        y.push(2);
        y.push(3);
        y.push(4);
        new Bits().head(1, 16, 32, 11025, 2).frame(0, 0, 2).put(8, 0).put(16, 5).endFrame().feedTo(y);
        Check.due("a shorter row is read", y.read(), 2);
        Check.due("sample(1)", y.sample(1), 5);
        Check.badArgument("sample(2) of the older row", () -> y.sample(2));
        Check.badArgument("sample(3) of the older row", () -> y.sample(3));
    }

    /** "what 0: samples, .. 8: coefficients; -1 for another what." */
    private static void counts() {
        SoundPacker x = new SoundPacker();
        Observed.fill(x);
        // Its stream: 42 bytes, and a frame of 7, 111 bits and 2.
        int[] due = {25, 1, 16, 32, 11025, 42 + 7 + 14 + 2, 1, 8, 2};
        for (int what = 0; what < due.length; what++) {
            Check.due("count(" + what + ")", x.count(what), due[what]);
        }
        for (int what : new int[] {-1, 9, 10, 256, 257, 65536, LEAST, LEAST + 1, MOST}) {
            Check.due("count(" + what + ")", x.count(what), -1);
        }
    }
}
