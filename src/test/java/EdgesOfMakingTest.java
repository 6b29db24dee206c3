import java.util.function.Consumer;

/** Promises 6 to 8 at their edges, and what the document says of streams that are made. */
public final class EdgesOfMakingTest {
    private static final int LEAST = Integer.MIN_VALUE;
    private static final int MOST = Integer.MAX_VALUE;

    public static void main(String[] args) {
        noSamples();
        channelsDoNotGoInto();
        settingsInTheStream();
        lastFrame();
        frameNumbers();
        sumsOfOldRenown();
        oneChannelToEight();
        farthestApart();
        downwards();
        middlesThatChange();
        longestFrames();
        wastedBits();
        wastedBitsOfTheDifference();
        wastedBitsOfEachFrame();
        oneNumber();
        moreFirstOnesThanNumbers();
        farResiduals();
        residualsThatWrapAround();
        sumsBeyond32Bits();
        numbersBelowZero();
        theLongestStream();
        octets();
        octetsOfTheLatest();
        ways();
        waysOfNothing();
        waysOfTheLatest();
        Check.end();
    }

    private static int[] row(int many, int v) {
        int[] x = new int[many];
        java.util.Arrays.fill(x, v);
        return x;
    }

    private static Bits head(int channels, int bits, int block, int moments) {
        return new Bits().head(channels, bits, block, 8000, moments);
    }

    /** "FRAMES .. (none at all without samples)" */
    private static void noSamples() {
        for (int channels = 1; channels <= 8; channels++) {
            int bits = 4 + 2 * channels;
            SoundPacker x = Making.packer(channels, bits, 32 * channels);
            Making.same("no samples", x, head(channels, bits, 32 * channels, 0));
            Check.due("no samples: frames", x.count(6), 0);
            Check.badArgument("no samples: way(0, 0, 4)", () -> x.way(0, 0, 4));
            Check.due("no samples: again()", x.again(), 42);
            Check.due("no samples: read()", x.read(), 0);
        }
    }

    /** "IllegalStateException: CHANNELS doesn't go into how many there are." */
    private static void channelsDoNotGoInto() {
        for (int channels = 1; channels <= 8; channels++) {
            for (int more = 0; more <= 2 * channels + 1; more++) {
                int c = channels;
                int m = more;
                String name = more + " more samples of " + channels + " channels";
                Consumer<SoundPacker> before = x -> {
                    x.shape(c, 8, 16, 8000);
                    push(x, c);
                    x.make();
                    push(x, m);
                    x.feed(0x664C614380000022L, 8);
                };
                if (more % channels != 0) {
                    Observed.leftAsItWas(name, before, x -> Check.badState(name + ": make()", x::make));
                } else {
                    SoundPacker x = new SoundPacker();
                    before.accept(x);
                    x.make();
                    Check.due(name + ": moments", x.octet(25), 1 + more / channels);
                    Check.due(name + ": samples stay", x.count(0), channels + more);
                }
            }
        }
    }

    private static void push(SoundPacker x, int many) {
        for (int i = 0; i < many; i++) {
            x.push(3 * i - 7);
        }
    }

    /** The least and the greatest of each setting, as the first words tell them. */
    private static void settingsInTheStream() {
        int[][] settings = {{1, 4, 16, 1}, {8, 24, 256, 655350}, {8, 4, 16, 655349}, {1, 24, 255, 2}, {2, 5, 17, 65536}};
        for (int[] s : settings) {
            SoundPacker x = new SoundPacker();
            x.shape(s[0], s[1], s[2], s[3]);
            Making.same("settings", x, new Bits().head(s[0], s[1], s[2], s[3], 0));
        }
    }

    /** "FRAMES, each of BLOCK moments, the last one of what is left", "8: its moments - 1" */
    private static void lastFrame() {
        for (int block : new int[] {16, 17, 32, 255, 256}) {
            for (int moments : new int[] {1, block - 1, block, block + 1, 2 * block - 1, 2 * block, 2 * block + 1}) {
                if (moments > 300) {
                    continue;
                }
                Bits b = head(1, 8, block, moments);
                for (int f = 0; f * block < moments; f++) {
                    b.frame(0, f, Math.min(block, moments - f * block)).subframe(0).put(8, 5).endFrame();
                }
                SoundPacker x = Making.packer(1, 8, block, row(moments, 5));
                Making.same(moments + " moments in blocks of " + block, x, b);
                int frames = (moments + block - 1) / block;
                Check.due("its frames", x.count(6), frames);
                Making.told("its last frame", x, frames - 1, 0, 0, 0, -1, 16, 0);
                Check.badArgument("the frame behind", () -> x.way(frames, 0, 0));
            }
        }
    }

    /** "8: itself if it is below 128, otherwise 8: 192 + its number through 64 (down), 8: 128 + what is left of it" */
    private static void frameNumbers() {
        Bits b = head(1, 4, 16, 4096);
        int[] at = new int[256];
        for (int f = 0; f < 256; f++) {
            at[f] = b.bytes() + 4;
            b.frame(0, f, 16).subframe(0).put(4, f % 8).endFrame();
        }
        SoundPacker x = new SoundPacker();
        b.feedTo(x);
        x.read();
        Check.due("256 frames", x.make(), b.bytes());
        for (int i = 0; i < 42; i++) {
            Check.due("4096 moments: octet(" + i + ")", x.octet(i), b.octet(i));
        }
        for (int f : new int[] {0, 1, 126, 127}) {
            Check.due("frame " + f, x.octet(at[f]), f);
            Check.due("its moments", x.octet(at[f] + 1), 15);
        }
        int[][] due = {{128, 194, 128}, {129, 194, 129}, {190, 194, 190}, {191, 194, 191}, {192, 195, 128}, {193, 195, 129},
            {254, 195, 190}, {255, 195, 191}};
        for (int[] d : due) {
            Check.due("frame " + d[0], x.octet(at[d[0]]), d[1]);
            Check.due("the rest of frame " + d[0], x.octet(at[d[0]] + 1), d[2]);
            Check.due("its moments", x.octet(at[d[0]] + 2), 15);
        }
        Check.due("the last type", x.way(255, 0, 0), 0);
        Check.badArgument("frame 256", () -> x.way(256, 0, 0));
    }

    /** What the digits 1 to 9 give with 7 and 0x8005 is known everywhere: the sums of these tests are these. */
    private static void sumsOfOldRenown() {
        Bits digits = new Bits();
        for (char c = '1'; c <= '9'; c++) {
            digits.put(8, c);
        }
        Check.due("the first sum", Bits.sumOf(digits.text(), 8, 7), 0xF4);
        Check.due("the second sum", Bits.sumOf(digits.text(), 16, 0x8005), 0xFEE8);
        SoundPacker x = Making.packer(1, 8, 16, 5, 5);
        x.make();
        int[] frame = {0xFF, 0xF8, 0x60, 0x00, 0x00, 0x01, 0xED, 0x00, 0x05, 0xDF, 0x64};
        for (int i = 0; i < frame.length; i++) {
            Check.due("the frame's byte " + i, x.octet(42 + i), frame[i]);
        }
    }

    /** "ASSIGNMENTS: CHANNELS - 1: each channel itself", "of each MOMENT one for each channel, in order" */
    private static void oneChannelToEight() {
        for (int channels = 1; channels <= 8; channels++) {
            Bits b = head(channels, 8, 16, 2).frame(channels - 1, 0, 2);
            int[] samples = new int[2 * channels];
            for (int c = 0; c < channels; c++) {
                b.subframe(0).put(8, 99 - 20 * c);
                samples[c] = 99 - 20 * c;
                samples[channels + c] = 99 - 20 * c;
            }
            SoundPacker x = Making.packer(channels, 8, 16, samples);
            Making.same(channels + " channels", x, b.endFrame());
            for (int c = 0; c < channels; c++) {
                Making.told(channels + " channels", x, 0, c, 0, 0, -1, 16, channels - 1);
            }
            int behind = channels;
            Check.badArgument("channel " + channels, () -> x.way(0, behind, 0));
        }
    }

    /** "For l - r a subframe has b = BITS + 1": the greatest and the least that it can be. */
    private static void farthestApart() {
        for (int bits : new int[] {4, 5, 16, 23, 24}) {
            int most = (1 << (bits - 1)) - 1;
            int least = -most - 1;
            Bits b = head(2, bits, 16, 16).frame(10, 0, 16);
            // Half of -1, down, is -1.
            b.subframe(0).put(bits, -1).subframe(1);
            int[] samples = new int[32];
            for (int t = 0; t < 16; t++) {
                boolean up = (0xA35C >> t & 1) == 1;
                samples[2 * t] = up ? most : least;
                samples[2 * t + 1] = up ? least : most;
                b.put(bits + 1, up ? most - least : least - most);
            }
            SoundPacker x = Making.packer(2, bits, 16, samples);
            Making.same("farthest apart", x, b.endFrame());
            Making.told("the middle", x, 0, 0, 0, 0, -1, 8 + bits, 10);
            Making.told("l - r", x, 0, 1, 1, 0, -1, 8 + 16 * (bits + 1), 10);
            x.again();
            Check.due("farthest apart: read()", x.read(), 32);
            for (int i = 0; i < 32; i++) {
                Check.due("farthest apart: sample(" + i + ")", x.sample(i), samples[i]);
            }
        }
    }

    /** "(l + r) through 2 (down)", "the sum of c0 x1, c1 x2, .. through 2^shift (down)" */
    private static void downwards() {
        int[][] middles = {{-2, -3, -3}, {-3, -4, -4}, {2, 3, 2}, {-1, 0, -1}, {0, 1, 0}, {-128, -127, -128}, {127, 126, 126}};
        for (int[] m : middles) {
            // l and r change places as they like: the middle is one number, l - r is 1 or -1.
            int wasted = Model.wasted(new int[] {m[2]});
            Bits b = head(2, 8, 16, 8).frame(10, 0, 8);
            b = (wasted > 0 ? b.subframe(0, wasted) : b.subframe(0)).put(8 - wasted, m[2] >> wasted);
            b.subframe(8).put(2, 0).put(4, 0).put(4, 0);
            int[] samples = new int[16];
            for (int t = 0; t < 8; t++) {
                int turned = 0x65 >> t & 1;
                samples[2 * t] = m[turned];
                samples[2 * t + 1] = m[1 - turned];
                b.row(samples[2 * t] > samples[2 * t + 1] ? 2 : 1);
            }
            Making.same("middle of " + m[0] + " and " + m[1], Making.packer(2, 8, 16, samples), b.endFrame());
        }
        // Half of an odd number below 0 is told as the whole number below: every residual is 0.
        int[] halves = {-32767, -16384, -8192, -4096, -2048, -1024, -512, -256, -128, -64, -32, -16, -8, -4, -2, -1, -1, -1, -1};
        SoundPacker x = Making.packer(1, 16, 32, halves);
        x.predict(1);
        x.coefficient(1);
        x.make();
        Making.told("halves, down", x, 0, 0, 32, 0, 0, 8 + 16 + 9 + 15 + 10 + 18, 0);
    }

    /** Middles below 0 that change by one: residuals of fixed predictor 1, which are near 0. */
    private static void middlesThatChange() {
        Bits b = head(2, 16, 16, 8).frame(10, 0, 8).subframe(9).put(16, -9001).put(2, 0).put(4, 0).put(4, 0);
        int[] samples = new int[16];
        int middle = -9001;
        for (int t = 0; t < 8; t++) {
            if (t > 0) {
                middle += t % 2 == 0 ? 1 : -1;
                b.row(t % 2 == 0 ? 2 : 1);
            }
            int half = (0x65 >> t & 1) == 0 ? 20001 : -20000;
            samples[2 * t] = middle + half;
            samples[2 * t + 1] = middle - half + 1;
        }
        b.subframe(1);
        for (int t = 0; t < 8; t++) {
            b.put(17, samples[2 * t] - samples[2 * t + 1]);
        }
        SoundPacker x = Making.packer(2, 16, 16, samples);
        Making.same("middles that change", x, b.endFrame());
        Making.told("middles that change", x, 0, 0, 9, 0, 0, 8 + 16 + 10 + 4 * 2 + 3 * 3, 10);
    }

    /** Two channels in frames of 256 moments: 512 calls can't push so many, so they are read. */
    private static void longestFrames() {
        Bits b = new Bits().head(2, 16, 256, 8000, 512).frames(16, 256, 512, 1001, -3002);
        SoundPacker x = new SoundPacker();
        b.feedTo(x);
        Check.due("frames of 256: read()", x.read(), 1024);
        Check.due("frames of 256: make()", x.make(), b.bytes());
        Making.told("frames of 256", x, 1, 1, 0, 1, -1, 24, 1);
        x.shape(1, 4, 16, 1);
        x.again();
        Check.due("frames of 256: read() once more", x.read(), 1024);
        Check.due("frames of 256: the last", x.sample(1023), -3002);
    }

    /** "WASTED bits .. if its numbers are not all 0 and all multiples of 2, as many as can be", "w from 1 to b - 1" */
    private static void wastedBits() {
        for (int bits : new int[] {4, 16, 24}) {
            for (int w = 0; w < bits; w++) {
                SoundPacker x = Making.packer(1, bits, 16, -(1 << w), 0, -(1 << w));
                x.make();
                Check.due(bits + " bits: wasted", x.way(0, 0, 1), w);
                x.again();
                x.read();
                Check.due(bits + " bits: sample(2)", x.sample(2), -(1 << w));
                SoundPacker one = Making.packer(1, bits, 16, row(16, -(1 << w)));
                Bits b = head(1, bits, 16, 16).frame(0, 0, 16);
                if (w == 0) {
                    b.subframe(0).put(bits, -1);
                } else {
                    b.subframe(0, w).put(bits - w, -1);
                }
                Making.same(bits + " bits, " + w + " wasted", one, b.endFrame());
                Making.told(bits + " bits, " + w + " wasted", one, 0, 0, 0, w, -1, 8 + bits, 0);
            }
            SoundPacker zeros = Making.packer(1, bits, 16, 0, 0, 0, 0);
            zeros.make();
            Check.due("all 0: wasted", zeros.way(0, 0, 1), 0);
            SoundPacker odd = Making.packer(1, bits, 16, 4, 2, -4, 1);
            odd.make();
            Check.due("all but one are multiples of 2: wasted", odd.way(0, 0, 1), 0);
            SoundPacker even = Making.packer(1, bits, 16, 4, 2, -4, 0);
            even.make();
            Check.due("all are multiples of 2, one is 0: wasted", even.way(0, 0, 1), 1);
        }
    }

    /** The difference has wasted bits of its own, up to BITS - 1 of its BITS + 1. */
    private static void wastedBitsOfTheDifference() {
        for (int bits : new int[] {4, 24}) {
            int half = 1 << (bits - 1);
            // l is one number, r that or half less: l - r has two bits that count, r has all.
            int[] samples = {half - 1, half - 1, half - 1, -1, half - 1, -1, half - 1, half - 1, half - 1, -1, half - 1, half - 1};
            SoundPacker x = Making.packer(2, bits, 16, samples);
            Bits b = head(2, bits, 16, 6).frame(8, 0, 6).subframe(0).put(bits, half - 1).subframe(1, bits - 1);
            for (int t = 0; t < 6; t++) {
                b.put(2, samples[2 * t + 1] == -1 ? 1 : 0);
            }
            Making.same(bits + " bits, l - r", x, b.endFrame());
            Making.told(bits + " bits, l - r", x, 0, 1, 1, bits - 1, -1, 8 + bits - 1 + 12, 8);
        }
    }

    /** Each frame has wasted bits of its own, or none, whatever the one before had. */
    private static void wastedBitsOfEachFrame() {
        int[] tops = {96, 97, 0, 64, 98, 3};
        int[] wasted = {5, 0, 0, 6, 1, 0};
        int[] samples = new int[96];
        for (int i = 0; i < 96; i++) {
            samples[i] = i % 2 == 0 ? tops[i / 16] : -tops[i / 16];
        }
        SoundPacker x = Making.packer(1, 8, 16, samples);
        for (int round = 0; round < 2; round++) {
            x.make();
            for (int f = 0; f < 6; f++) {
                Check.due("frame " + f + ": wasted", x.way(f, 0, 1), wasted[f]);
            }
        }
        x.again();
        Check.due("wasted bits of each frame: read()", x.read(), 96);
        for (int i = 0; i < 96; i++) {
            Check.due("wasted bits of each frame: sample(" + i + ")", x.sample(i), samples[i]);
        }
    }

    /** "0: b: the one number that all are": all, and all but one at either end. */
    private static void oneNumber() {
        for (int many : new int[] {1, 2, 15, 16}) {
            SoundPacker x = Making.packer(1, 8, 16, row(many, 101));
            x.make();
            Making.told(many + " times one number", x, 0, 0, 0, 0, -1, 16, 0);
        }
        for (int other : new int[] {0, 1, 14, 15}) {
            int[] v = row(16, 101);
            v[other] = -102;
            SoundPacker x = Making.packer(1, 8, 16, v);
            x.make();
            Check.holds("all but number " + other, x.way(0, 0, 0) != 0);
            x.again();
            x.read();
            Check.due("all but number " + other, x.sample(other), -102);
        }
        SoundPacker halves = Making.packer(1, 8, 16, 101, 101, 101, 101, 101, 101, 101, 101, 101, 101, 101, 101, 101, 101, 101, 101, -7);
        halves.make();
        Making.told("one number in each frame", halves, 0, 0, 0, 0, -1, 16, 0);
        Making.told("one number in each frame", halves, 1, 0, 0, 0, -1, 16, 0);
    }

    /** "o .. at most n", "n being o or more": fewer numbers than coefficients, as many, and more. */
    private static void moreFirstOnesThanNumbers() {
        for (int o = 1; o <= 8; o++) {
            for (int n = 1; n <= o + 2; n++) {
                int[] v = new int[n];
                for (int i = 0; i < n; i++) {
                    v[i] = i % 2 == 0 ? 8388607 : -8388607;
                }
                SoundPacker x = Making.packer(1, 24, 16, v);
                x.predict(14);
                x.coefficient(-16384);
                for (int c = 1; c < o; c++) {
                    x.coefficient(0);
                }
                x.make();
                // 9 + 15 o + 10 and a bit for each residual are too many but where two numbers are left to tell.
                int type = n == 1 ? 0 : o == 1 && n == 3 ? 32 : 1;
                Check.due(n + " numbers, " + o + " coefficients: type", x.way(0, 0, 0), type);
                x.again();
                Check.due(n + " numbers, " + o + " coefficients: read()", x.read(), n);
                Check.due(n + " numbers, " + o + " coefficients: the last", x.sample(n - 1), v[n - 1]);
            }
        }
    }

    /** "no residual above 2^31 - 1 or below -2^31 + 1": these are too long to be chosen, and are measured all the same. */
    private static void farResiduals() {
        int[][] rows = {{131072, -1}, {131072, 0}, {131072, 1}, {131072, -2}, {-131072, 1}, {-131072, 0}, {-131072, -1}, {-131072, 2}};
        for (int[] r : rows) {
            SoundPacker x = Making.packer(1, 24, 16, r[0], r[1], 3, -5, 7);
            x.coefficient(-16384);
            x.make();
            Check.due("a residual of some 2^31: type", x.way(0, 0, 0), 8);
            x.again();
            Check.due("a residual of some 2^31: read()", x.read(), 5);
            Check.due("a residual of some 2^31: sample(1)", x.sample(1), r[1]);
        }
        SoundPacker x = Making.packer(1, 24, 16, -8388608, -8388608, -8388608, -8388608, -8388608, -8388608, -8388608, -8388608, 8388607);
        for (int c = 0; c < 8; c++) {
            x.coefficient(-16384);
        }
        x.make();
        Check.due("a residual of -2^40: type", x.way(0, 0, 0), 1);
        x.again();
        Check.due("read()", x.read(), 9);
        Check.due("sample(8)", x.sample(8), 8388607);
        // Differences of step four are 0, and every number is too far from 16383 times the one before.
        int[] v = new int[16];
        for (int i = 0; i < 16; i++) {
            v[i] = 700001 + 3 * i * (i - 1) * (i - 2) / 2 + 5 * i;
        }
        SoundPacker y = Making.packer(1, 24, 16, v);
        y.coefficient(16383);
        y.make();
        Making.told("only one's own residuals are too far", y, 0, 0, 12, 0, 0, 8 + 4 * 24 + 10 + 12, 0);
    }

    /** Residuals of 2^32 each, which 32 bits would take for 0. */
    private static void residualsThatWrapAround() {
        int[] v = new int[24];
        for (int i = 0; i < 24; i++) {
            v[i] = i % 2 == 0 ? 1 << 18 : -(1 << 18);
        }
        v[23]++;
        SoundPacker x = Making.packer(1, 24, 32, v);
        x.coefficient(16383);
        x.make();
        Making.told("residuals of 2^32", x, 0, 0, 1, 0, -1, 8 + 24 * 24, 0);
        x.again();
        Check.due("residuals of 2^32: read()", x.read(), 24);
        Check.due("residuals of 2^32: sample(23)", x.sample(23), v[23]);
    }

    /** What the coefficients foretell is beyond 32 bits until it is shifted down. */
    private static void sumsBeyond32Bits() {
        for (int end : new int[] {8388607, -8388607}) {
            int[] v = new int[16];
            Bits b = head(1, 24, 16, 16).frame(0, 0, 16).subframe(39);
            for (int i = 0; i < 16; i++) {
                v[i] = i % 2 == 0 ? end : -end;
                if (i < 8) {
                    b.put(24, v[i]);
                }
            }
            b.put(4, 14).put(5, 14);
            // Two of them take each other away; what is left is the number before, turned, 2^14 times.
            int[] own = {-16384, 16383, 16383, 0, 0, 0, 0, 0};
            for (int c : own) {
                b.put(15, c);
            }
            b.put(2, 0).put(4, 0).put(4, 0).oneItem("1".repeat(8));
            SoundPacker x = Making.packer(1, 24, 16, v);
            x.predict(14);
            for (int c : own) {
                x.coefficient(c);
            }
            Making.same("sums beyond 32 bits", x, b.endFrame());
            x.again();
            Check.due("sums beyond 32 bits: read()", x.read(), 16);
            Check.due("sums beyond 32 bits: sample(15)", x.sample(15), -end);
        }
    }

    /** "if it can be below 0, in place of such a one x + 2^n": numbers and coefficients of both signs. */
    private static void numbersBelowZero() {
        for (int bits : new int[] {4, 8, 24}) {
            int limit = 1 << (bits - 1);
            int[] v = {-limit, limit - 1, -1, 0, -limit, limit - 1, -limit, 1};
            Bits b = head(1, bits, 16, 8).frame(0, 0, 8).subframe(1);
            for (int n : v) {
                b.put(bits, n < 0 ? n + 2L * limit : n);
            }
            Making.same(bits + " bits", Making.packer(1, bits, 16, v), b.endFrame());
        }
        // The number before turned, or some two times it: nothing fixed foretells these.
        int[][] predictors = {{-16384, 14, 20001}, {-1, 0, 20001}, {16383, 13, 21}, {-16383, 13, 21}};
        for (int[] p : predictors) {
            int[] v = new int[16];
            v[0] = p[2];
            for (int i = 1; i < 16; i++) {
                v[i] = (int) Math.floorDiv((long) p[0] * v[i - 1], 1L << p[1]);
            }
            Bits b = head(1, 24, 16, 16).frame(0, 0, 16).subframe(32).put(24, p[2]).put(4, 14).put(5, p[1])
                    .put(15, p[0] < 0 ? p[0] + 32768 : p[0]).put(2, 0).put(4, 0).put(4, 0).oneItem("1".repeat(15));
            SoundPacker x = Making.packer(1, 24, 16, v);
            x.predict(p[1]);
            x.coefficient(p[0]);
            Making.same("coefficient " + p[0], x, b.endFrame());
        }
    }

    /** 256 numbers of 24 bits that no fixed predictor foretells. */
    private static int[] swing(int first) {
        int[] v = new int[256];
        v[0] = first;
        v[1] = -3000001;
        for (int i = 2; i < 256; i++) {
            v[i] = (int) Math.floorDiv(-6818L * v[i - 1] - 8192L * v[i - 2], 8192L);
        }
        return v;
    }

    /** 4096 samples of 24 bits, each told as it is, are read again. */
    private static void theLongestStream() {
        Bits b = head(1, 24, 256, 4096);
        for (int f = 0; f < 16; f++) {
            b.frame(0, f, 256).subframe(33).put(24, 7000001 - f).put(24, -3000001).put(4, 14).put(5, 13)
                    .put(15, -6818).put(15, -8192).put(2, 0).put(4, 0).put(4, 15).put(5, 0).endFrame();
        }
        SoundPacker x = new SoundPacker();
        b.feedTo(x);
        Check.due("4096 numbers: read()", x.read(), 4096);
        int bytes = 42 + 16 * (7 + 1 + 3 * 256 + 2);
        Check.due("4096 numbers: make()", x.make(), bytes);
        Making.told("4096 numbers", x, 15, 0, 1, 0, -1, 8 + 24 * 256, 0);
        Check.due("4096 numbers: again()", x.again(), bytes);
        Check.due("4096 numbers: the tape", x.count(7), bytes);
        x.shape(1, 4, 16, 1);
        Check.due("4096 numbers: read() once more", x.read(), 4096);
        for (int i = 0; i < 256; i += 3) {
            Check.due("4096 numbers: sample(" + i + ")", x.sample(i), swing(7000001)[i]);
            Check.due("4096 numbers: sample(" + (3840 + i) + ")", x.sample(3840 + i), swing(7000001 - 15)[i]);
        }
        x.predict(13);
        x.coefficient(-6818);
        x.coefficient(-8192);
        int shorter = x.make();
        // Each residual is one bit.
        Check.due("with its own predictor", shorter, 42 + 16 * (7 + (8 + 48 + 9 + 30 + 10 + 254 + 7) / 8 + 2));
        Making.told("with its own predictor", x, 0, 0, 33, 0, 0, 8 + 48 + 9 + 30 + 10 + 254, 0);
        Check.due("no byte behind", x.octet(shorter), -1);
    }

    /** "Byte i of the stream that was made latest; -1 if there is none." */
    private static void octets() {
        SoundPacker x = new SoundPacker();
        for (int i : new int[] {-1, 0, 41, 42, LEAST, MOST}) {
            Check.due("no stream: octet(" + i + ")", x.octet(i), -1);
        }
        x.push(-1);
        int made = x.make();
        Check.due("octet(0)", x.octet(0), 0x66);
        Check.holds("the last byte", x.octet(made - 1) >= 0);
        Check.due("a byte of 255 is not below 0", x.octet(42), 255);
        for (int i : new int[] {-1, made, made + 1, 256, 65536, -65536, 19999, 20000, LEAST, LEAST + 1, MOST}) {
            Check.due("octet(" + i + ")", x.octet(i), -1);
        }
    }

    /** A shorter stream behind a longer one, and calls that make none. */
    private static void octetsOfTheLatest() {
        SoundPacker x = Making.packer(1, 16, 16, 100, -3000, 20000, 7, 31000);
        int longer = x.make();
        x.shape(1, 16, 16, 8000);
        x.push(9);
        Check.due("the older one, until the next is made", x.count(5), longer);
        Check.holds("its last byte", x.octet(longer - 1) >= 0);
        Making.same("the newer one", x, head(1, 16, 16, 1).frame(0, 0, 1).subframe(0).put(16, 9).endFrame());
        for (int i = x.count(5); i <= longer; i++) {
            Check.due("nothing of the older one: octet(" + i + ")", x.octet(i), -1);
        }
    }

    /** "IllegalArgumentException: no such frame, channel or what." */
    private static void ways() {
        Consumer<SoundPacker> before = x -> {
            x.shape(3, 8, 16, 8000);
            for (int i = 0; i < 51; i++) {
                x.push(i % 3 == 0 ? 5 : i);
            }
            x.make();
        };
        SoundPacker x = new SoundPacker();
        before.accept(x);
        for (int f = 0; f <= 1; f++) {
            for (int c = 0; c <= 2; c++) {
                Check.due("way(" + f + ", " + c + ", 4)", x.way(f, c, 4), 2);
            }
            Making.told("way", x, f, 0, 0, 0, -1, 16, 2);
        }
        int[][] wrong = {{-1, 0, 0}, {2, 0, 0}, {0, -1, 0}, {0, 3, 0}, {1, 3, 0}, {0, 0, -1}, {0, 0, 5}, {1, 2, 5}, {1, 2, -1},
            {-1, 2, 4}, {2, 2, 4}, {0, -1, 4}, {0, 3, 4}, {1, -1, 4}, {-1, 3, 5}, {2, -1, -1}, {256, 0, 0}, {0, 256, 0}, {0, 0, 256},
            {LEAST, 0, 0}, {MOST, 0, 0}, {0, LEAST, 0}, {0, MOST, 0}, {0, 0, LEAST}, {0, 0, MOST}, {1 << 30, 0, 0}, {0, 1 << 30, 0},
            {-1, 3, 0}, {1, -3, 0}};
        for (int[] w : wrong) {
            String name = "way(" + w[0] + ", " + w[1] + ", " + w[2] + ")";
            Observed.leftAsItWas(name, before, y -> Check.badArgument(name, () -> y.way(w[0], w[1], w[2])));
        }
    }

    /** There is no frame ahead of the first stream, nor in one without samples. */
    private static void waysOfNothing() {
        for (int what = -1; what <= 5; what++) {
            SoundPacker x = new SoundPacker();
            int w = what;
            x.push(1);
            Check.badArgument("no stream: way(0, 0, " + what + ")", () -> x.way(0, 0, w));
            x.make();
            x.shape(1, 16, 16, 8000);
            x.make();
            Check.badArgument("no frames: way(0, 0, " + what + ")", () -> x.way(0, 0, w));
            Check.badArgument("no frames: way(-1, 0, " + what + ")", () -> x.way(-1, 0, w));
        }
    }

    /** The channels and frames of "that stream", whatever the settings and samples are by now. */
    private static void waysOfTheLatest() {
        SoundPacker x = Making.packer(2, 8, 16, 101, -50, 101, -50);
        x.make();
        x.shape(1, 8, 16, 8000);
        Making.told("one channel by now", x, 0, 1, 0, 1, -1, 16, 1);
        Check.badArgument("no third channel", () -> x.way(0, 2, 0));
        x.push(7);
        x.make();
        x.shape(8, 8, 16, 8000);
        Making.told("eight channels by now", x, 0, 0, 0, 0, -1, 16, 0);
        Check.badArgument("still one channel", () -> x.way(0, 1, 0));
        x.push(1);
        Check.badState("make() of one sample", x::make);
        Making.told("a refused make()", x, 0, 0, 0, 0, -1, 16, 0);
        Check.badArgument("still one channel behind a refused make()", () -> x.way(0, 1, 0));
    }
}
