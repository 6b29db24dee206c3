/** Promises 6 to 8: make, octet and way, against streams written out by hand. */
public final class MakeTest {
    public static void main(String[] args) {
        nothing();
        wrongNumber();
        constant();
        verbatim();
        fixedOrders();
        linear();
        linearIsLast();
        wasted();
        types();
        parts();
        keys();
        assignments();
        frameNumbers();
        manySubframes();
        longestFrames();
        keptStream();
        wrongWays();
        Check.end();
    }

    private static Bits head(int channels, int bits, int block, int moments) {
        return new Bits().head(channels, bits, block, 8000, moments);
    }

    private static void nothing() {
        SoundPacker x = Making.packer(8, 24, 256);
        Making.same("nothing", x, head(8, 24, 256, 0));
        Check.due("no frames", x.count(6), 0);
        int[] due = {0x66, 0x4C, 0x61, 0x43, 0x80, 0, 0, 34, 1, 0, 1, 0, 0, 0, 0, 0, 0, 0, 0x01, 0xF4, 0x0F, 0x70};
        for (int i = 0; i < due.length; i++) {
            Check.due("nothing: octet(" + i + ")", x.octet(i), due[i]);
        }
    }

    private static void wrongNumber() {
        SoundPacker x = Making.packer(3, 8, 16, 1, 2, 3, 4);
        Check.badState("make() of four samples in three channels", x::make);
        Check.due("no stream", x.count(5), 0);
        x.push(5);
        Check.badState("make() of five", x::make);
        x.push(6);
        int made = x.make();
        x.push(7);
        Check.badState("make() of seven", x::make);
        Check.due("the stream before stays", x.count(5), made);
        Check.due("its first byte too", x.octet(0), 0x66);
        Check.due("its frames too", x.count(6), 1);
        Check.due("the samples too", x.count(0), 7);
    }

    private static void constant() {
        Bits b = head(1, 16, 16, 5).frame(0, 0, 5).subframe(0).put(16, -5).endFrame();
        SoundPacker x = Making.packer(1, 16, 16, -5, -5, -5, -5, -5);
        Making.same("constant", x, b);
        Making.told("constant", x, 0, 0, 0, 0, -1, 24, 0);
    }

    private static void verbatim() {
        Bits b = head(1, 4, 16, 4).frame(0, 0, 4).subframe(1).put(4, 7).put(4, -8).put(4, 7).put(4, -8).endFrame();
        SoundPacker x = Making.packer(1, 4, 16, 7, -8, 7, -8);
        Making.same("verbatim", x, b);
        Making.told("verbatim", x, 0, 0, 1, 0, -1, 24, 0);
    }

    private static int choose(int n, int k) {
        int c = 1;
        for (int i = 0; i < k; i++) {
            c = c * (n - i) / (i + 1);
        }
        return c;
    }

    /** Numbers whose differences of step o are all 0: the shortest way is fixed predictor o, each residual one bit. */
    private static void fixedOrders() {
        for (int o = 2; o <= 4; o++) {
            int[] v = new int[16];
            Bits b = head(1, 24, 16, 16).frame(0, 0, 16).subframe(8 + o);
            for (int i = 0; i < 16; i++) {
                v[i] = 70001 + 9 * choose(i, o - 1) + 5 * i;
                if (i < o) {
                    b.put(24, v[i]);
                }
            }
            b.put(2, 0).put(4, 0).put(4, 0);
            for (int i = o; i < 16; i++) {
                b.row(0);
            }
            SoundPacker x = Making.packer(1, 24, 16, v);
            Making.same("fixed " + o, x, b.endFrame());
            Making.told("fixed " + o, x, 0, 0, 8 + o, 0, 0, 8 + 24 * o + 10 + 16 - o, 0);
        }
        SoundPacker x = Making.packer(1, 16, 16, 1, -1, 0, 1, 0, 0);
        Bits b = head(1, 16, 16, 6).frame(0, 0, 6).subframe(8).put(6, 0).put(4, 0)
                .row(2).row(1).row(0).row(2).row(0).row(0).endFrame();
        Making.same("fixed 0", x, b);
        Making.told("fixed 0", x, 0, 0, 8, 0, 0, 8 + 10 + 11, 0);
        x = Making.packer(1, 16, 16, 9000, 9001, 9000, 9000, 9001, 9002);
        b = head(1, 16, 16, 6).frame(0, 0, 6).subframe(9).put(16, 9000).put(6, 0).put(4, 0)
                .row(2).row(1).row(0).row(2).row(2).endFrame();
        Making.same("fixed 1", x, b);
        Making.told("fixed 1", x, 0, 0, 9, 0, 0, 8 + 16 + 10 + 12, 0);
    }

    /** Each number is minus the one before, and half of that is told through the shift, downwards. */
    private static void linear() {
        int[] v = new int[40];
        Bits b = head(1, 16, 64, 40).frame(0, 0, 40).subframe(33).put(16, 12345).put(16, -12345)
                .put(4, 14).put(5, 14).put(15, -16384).put(15, 0).put(6, 0).put(4, 0);
        for (int i = 0; i < 40; i++) {
            v[i] = i % 2 == 0 ? 12345 : -12345;
            if (i >= 2) {
                b.row(0);
            }
        }
        SoundPacker x = Making.packer(1, 16, 64, v);
        x.predict(14);
        x.coefficient(-16384);
        x.coefficient(0);
        Making.same("linear", x, b.endFrame());
        Making.told("linear", x, 0, 0, 33, 0, 0, 8 + 32 + 9 + 30 + 10 + 38, 0);
        x.predict(14);
        x.coefficient(-16383);
        x.make();
        // 12345 foretells -16383 * 12345 / 16384 = -12344.2.., down: -12345, residual 0; -12345 foretells 12344, residual 1.
        Making.told("linear, down", x, 0, 0, 32, 0, 0, 8 + 16 + 9 + 15 + 10 + 39 + 2 * 19, 0);
        SoundPacker atFirst = Making.packer(1, 16, 64, v);
        atFirst.coefficient(-1);
        atFirst.make();
        Making.told("the shift is 0 at first", atFirst, 0, 0, 32, 0, 0, 8 + 16 + 9 + 15 + 10 + 39, 0);
        x.predict(14);
        x.make();
        Making.told("no coefficients", x, 0, 0, 1, 0, -1, 8 + 40 * 16, 0);
        SoundPacker y = Making.packer(1, 16, 16, 5, -7);
        y.coefficient(1);
        y.coefficient(1);
        y.coefficient(1);
        Check.due("more coefficients than numbers", y.make(), 42 + 7 + 4 + 2);
        // u = 10 and 13: K 3 and K 4 have ten bits each.
        Making.told("more coefficients than numbers", y, 0, 0, 8, 0, 0, 8 + 10 + 10, 0);
    }

    /** Coefficients that foretell like a fixed predictor never beat it, and a far residual rules the type out. */
    private static void linearIsLast() {
        SoundPacker x = Making.packer(1, 24, 16, 8388607, 8388607, -8388608, 8388607, 8388607, -8388608, 1, 2);
        for (int i = 0; i < 8; i++) {
            x.coefficient(16383);
        }
        x.make();
        Making.told("all are first ones", x, 0, 0, 1, 0, -1, 8 + 8 * 24, 0);
        x.push(3);
        x.make();
        Making.told("a residual beyond 2^31", x, 0, 0, 1, 0, -1, 8 + 9 * 24, 0);
        x.again();
        Check.due("read()", x.read(), 9);
        Check.due("sample(7)", x.sample(7), 2);
    }

    private static void wasted() {
        SoundPacker x = Making.packer(1, 4, 16, -8);
        Bits b = head(1, 4, 16, 1).frame(0, 0, 1).subframe(0, 3).put(1, 1).endFrame();
        Making.same("all but one bit wasted", x, b);
        Making.told("all but one bit wasted", x, 0, 0, 0, 3, -1, 12, 0);
        x = Making.packer(1, 16, 16, 32, -64, 96);
        b = head(1, 16, 16, 3).frame(0, 0, 3).subframe(8, 5).put(6, 0).put(4, 2)
                .row(0).put(2, 2).row(0).put(2, 3).row(1).put(2, 2).endFrame();
        Making.same("five wasted", x, b);
        Making.told("five wasted", x, 0, 0, 8, 5, 0, 8 + 5 + 10 + 3 + 3 + 4, 0);
        x = Making.packer(1, 16, 16, 0, 0, 0);
        x.make();
        Making.told("zeros waste nothing", x, 0, 0, 8, 0, 0, 8 + 10 + 3, 0);
        x = Making.packer(1, 16, 16, 0, 0, 64);
        x.make();
        Making.told("zeros among others", x, 0, 0, 8, 6, 0, 8 + 6 + 10 + 5, 0);
        x = Making.packer(1, 16, 16, 32, 64, 1);
        x.make();
        Check.due("one odd number", x.way(0, 0, 1), 0);
        x = Making.packer(1, 24, 16, -8388608, 0);
        x.make();
        Making.told("23 wasted", x, 0, 0, 1, 23, -1, 8 + 23 + 2, 0);
    }

    /** Of ways that are equally short the first in the order 0, 8 .. 12, 31 + o, 1. */
    private static void types() {
        SoundPacker x = Making.packer(1, 11, 16, 0);
        x.make();
        Making.told("0 and 8 are equally short", x, 0, 0, 0, 0, -1, 19, 0);
        x = Making.packer(1, 12, 16, 0);
        x.make();
        Making.told("8 is shorter than 0", x, 0, 0, 8, 0, 0, 19, 0);
        x = Making.packer(1, 5, 16, 15);
        x.make();
        Making.told("0 and 1 are equally short", x, 0, 0, 0, 0, -1, 13, 0);
        // 8: 10 bits, and of 1 and 0 three and one; 1: twice seven.
        x = Making.packer(1, 7, 16, 1, 0);
        x.make();
        Making.told("8 and 1 are equally short", x, 0, 0, 8, 0, 0, 22, 0);
        x = Making.packer(1, 6, 16, 1, 0);
        x.make();
        Making.told("1 is shorter than 8", x, 0, 0, 1, 0, -1, 20, 0);
        x = Making.packer(1, 9, 16, 1, 1, 1, 1, 1, 1, 1, 1, 1, 1, 1, 1, 1, 1, 1, 1);
        x.make();
        Making.told("all one number", x, 0, 0, 0, 0, -1, 17, 0);
    }

    private static void parts() {
        int[] v = new int[16];
        for (int i = 0; i < 16; i++) {
            v[i] = i % 3 - 1;
        }
        SoundPacker x = Making.packer(1, 24, 16, v);
        x.make();
        Check.due("one part is enough", x.way(0, 0, 2), 0);
        for (int q = 0; q <= 3; q++) {
            int length = 128 >> q;
            SoundPacker y = new SoundPacker();
            y.shape(1, 20, 128, 1);
            for (int i = 0; i < 128; i++) {
                y.push((i / length % 2 == 0 ? 1 : 3001) * (i % 2 == 0 ? 1 : -1));
            }
            y.make();
            Check.due("parts of " + length, y.way(0, 0, 2), q);
        }
        // 2^q goes into n: of 20 numbers there may be four parts, not eight; of 21 one.
        SoundPacker y = Making.packer(1, 24, 256, 1, 100000, -100000, 100001, -1, 0, 1, 0, 0, -1, 1, 0, 0, 0, 1, 1, 0, 0, 0, 0);
        y.make();
        Check.due("20 numbers", y.way(0, 0, 2), 2);
        y.push(0);
        y.make();
        Check.due("21 numbers", y.way(0, 0, 2), 0);
    }

    private static void keys() {
        // u = 2 and 2: K 0 has 3 and 3, K 1 has 3 and 3: the least.
        SoundPacker x = Making.packer(1, 16, 16, 1, 1, 1, 1, -1, -1);
        Bits b = head(1, 16, 16, 6).frame(0, 0, 6).subframe(8).put(6, 0).put(4, 0)
                .row(2).row(2).row(2).row(2).row(1).row(1).endFrame();
        Making.same("K 0 and 1 are equally short", x, b);
        // The greatest K that is made is 14.
        int[] v = new int[16];
        b = head(1, 24, 16, 16).frame(0, 0, 16).subframe(8).put(6, 0).put(4, 14);
        for (int i = 0; i < 16; i++) {
            v[i] = i % 2 == 0 ? 8191 + 4096 * 3 : -8191 - 4096 * 3;
            long u = i % 2 == 0 ? 2L * v[i] : -2L * v[i] - 1;
            b.row(u >> 14).put(14, u);
        }
        Making.same("K 14", Making.packer(1, 24, 16, v), b.endFrame());
    }

    private static void assignments() {
        SoundPacker x = Making.packer(2, 16, 16, 0, 0);
        x.make();
        Making.told("all are equally short", x, 0, 0, 8, 0, 0, 19, 1);
        Making.told("all are equally short", x, 0, 1, 8, 0, 0, 19, 1);
        // r is l less 1 throughout: l - r is one number.
        x = Making.packer(2, 8, 16, 101, 100, -98, -99, 77, 76, 5, 4);
        Bits b = head(2, 8, 16, 4).frame(8, 0, 4);
        b.subframe(1).put(8, 101).put(8, -98).put(8, 77).put(8, 5);
        b.subframe(0).put(9, 1).endFrame();
        Making.same("l and l - r", x, b);
        Making.told("l and l - r", x, 0, 0, 1, 0, -1, 40, 8);
        Making.told("l and l - r", x, 0, 1, 0, 0, -1, 17, 8);
        // The same, but r is shorter than l: all of it can be halved.
        x = Making.packer(2, 8, 16, 101, 100, -99, -100, 77, 76, 5, 4);
        b = head(2, 8, 16, 4).frame(9, 0, 4);
        b.subframe(0).put(9, 1);
        b.subframe(1, 2).put(6, 25).put(6, -25).put(6, 19).put(6, 1).endFrame();
        Making.same("l - r and r", x, b);
        Making.told("l - r and r", x, 0, 0, 0, 0, -1, 17, 9);
        Making.told("l - r and r", x, 0, 1, 1, 2, -1, 34, 9);
        // (l + r) through 2 is -3 throughout, down; l - r is 1 or -1.
        x = Making.packer(2, 16, 16, -2, -3, -3, -2, -2, -3, -3, -2, -3, -2, -3, -2, -2, -3, -2, -3);
        b = head(2, 16, 16, 8).frame(10, 0, 8);
        b.subframe(0).put(16, -3);
        b.subframe(8).put(6, 0).put(4, 0).row(2).row(1).row(2).row(1).row(1).row(1).row(2).row(2).endFrame();
        Making.same("the middle and l - r", x, b);
        Making.told("the middle and l - r", x, 0, 0, 0, 0, -1, 24, 10);
        Making.told("the middle and l - r", x, 0, 1, 8, 0, 0, 38, 10);
        // With three channels the likeness of two is never used.
        x = Making.packer(3, 8, 16, 101, 101, 101, -98, -98, -98, 77, 77, 77, 5, 5, 5);
        x.make();
        Check.due("three channels", x.way(0, 2, 4), 2);
        // The difference may need one bit more.
        x = Making.packer(2, 4, 16, 7, -8, 7, -8, 7, -8, -8, 7);
        int made = x.make();
        x.again();
        Check.due("again", x.read(), 8);
        Check.due("the farthest apart", x.sample(6), -8);
        Check.due("made", x.count(5), made);
    }

    /** 256 frames of 16 numbers that are all one. */
    private static void frameNumbers() {
        Bits b = new Bits().head(1, 4, 16, 8000, 4096);
        for (int f = 0; f < 256; f++) {
            b.frame(0, f, 16).subframe(0).put(4, f % 8).endFrame();
        }
        SoundPacker x = new SoundPacker();
        b.feedTo(x);
        Check.due("read()", x.read(), 4096);
        Check.due("make()", x.make(), b.bytes());
        Check.due("frames", x.count(6), 256);
        int frame128 = 42 + 128 * 11;
        Check.due("frame 127", x.octet(frame128 - 7), 127);
        Check.due("frame 128", x.octet(frame128 + 4), 194);
        Check.due("frame 128", x.octet(frame128 + 5), 128);
        Check.due("frame 255", x.octet(b.bytes() - 8), 195);
        Check.due("frame 255", x.octet(b.bytes() - 7), 191);
        Making.told("frame 255", x, 255, 0, 0, 0, -1, 12, 0);
        Check.badArgument("frame 256", () -> x.way(256, 0, 0));
        for (int i = b.bytes() - 12; i < b.bytes(); i++) {
            Check.due("octet(" + i + ")", x.octet(i), b.octet(i));
        }
        x.again();
        Check.due("read()", x.read(), 4096);
        Check.due("sample(4095)", x.sample(4095), 7);
    }

    /** As many subframes as there can be: 52 frames of five channels, the last frame being short. */
    private static void manySubframes() {
        Bits b = new Bits().head(5, 4, 256, 8000, 819);
        for (int f = 0; f < 4; f++) {
            b.frame(4, f, f < 3 ? 256 : 51);
            for (int c = 0; c < 5; c++) {
                b.subframe(0).put(4, c + 1);
            }
            b.endFrame();
        }
        // The same with blocks of 16 is read from a stream that says so.
        Bits small = new Bits().head(5, 4, 16, 8000, 819);
        for (int f = 0; f < 52; f++) {
            small.frame(4, f, f < 51 ? 16 : 3);
            for (int c = 0; c < 5; c++) {
                small.subframe(0).put(4, c + 1);
            }
            small.endFrame();
        }
        SoundPacker x = new SoundPacker();
        b.feedTo(x);
        Check.due("read()", x.read(), 4095);
        Check.due("make()", x.make(), b.bytes());
        small.feedTo(x);
        Check.due("read()", x.read(), 4095);
        Check.due("make()", x.make(), small.bytes());
        Check.due("frames", x.count(6), 52);
        Making.told("the last subframe", x, 51, 4, 0, 0, -1, 12, 4);
        Making.told("the first subframe", x, 0, 0, 0, 0, -1, 12, 4);
    }

    /** Two channels in frames of 256 moments, told in each of the four ways. */
    private static void longestFrames() {
        int[] assignments = {1, 8, 9, 10};
        Bits b = new Bits().head(2, 16, 256, 8000, 1024);
        for (int f = 0; f < 4; f++) {
            b.frame(assignments[f], f, 256);
            b.subframe(0).put(f == 2 ? 17 : 16, 1001);
            b.subframe(0).put(f == 1 || f == 3 ? 17 : 16, f == 1 ? 2001 : -3001).endFrame();
        }
        SoundPacker x = new SoundPacker();
        b.feedTo(x);
        Check.due("read()", x.read(), 2048);
        int[] due = {1001, -3001, 1001, -1000, -2000, -3001, -499, 2502};
        for (int f = 0; f < 4; f++) {
            for (int i : new int[] {0, 1, 510, 511}) {
                Check.due("moments of frame " + f, x.sample(512 * f + i), due[2 * f + i % 2]);
            }
        }
        // One number in each row: 24 bits, and one more for l - r.
        Check.due("make()", x.make(), 42 + 4 * (7 + 6 + 2));
        Making.told("256 moments", x, 3, 1, 0, 1, -1, 24, 1);
        x.again();
        Check.due("read() of what was made", x.read(), 2048);
        Check.due("the last sample", x.sample(2047), 2502);
    }

    private static void keptStream() {
        SoundPacker x = Making.packer(2, 8, 16, 1, 2, 3, 4);
        int made = x.make();
        x.shape(1, 4, 32, 5);
        x.push(7);
        Check.due("kept behind shape and push", x.count(5), made);
        Check.due("channel 1 of it", x.way(0, 1, 4), x.way(0, 0, 4));
        Bits b = new Bits().head(1, 8, 16, 1, 0);
        b.feedTo(x);
        x.read();
        Check.due("kept behind read", x.count(5), made);
        Check.due("its frames", x.count(6), 1);
        Check.due("channel 1 of it", x.way(0, 1, 1), 1);
        x.make();
        Check.due("the next one", x.count(5), 42);
        Check.due("no byte is left of the one before", x.octet(42), -1);
        Check.due("nor a frame", x.count(6), 0);
        for (int i = 0; i < 30; i++) {
            x.push(i % 5 - 2);
        }
        x.make();
        Bits third = Bits.madeBy(x);
        SoundPacker y = Making.packer(1, 8, 16);
        y.shape(1, 8, 16, 1);
        for (int i = 0; i < 30; i++) {
            y.push(i % 5 - 2);
        }
        Making.same("a stream over an older one", y, third);
    }

    private static void wrongWays() {
        SoundPacker x = Making.packer(2, 8, 16, 1, 2, 3, 4);
        x.make();
        int[][] bad = {{-1, 0, 0}, {1, 0, 0}, {0, -1, 0}, {0, 2, 0}, {0, 0, -1}, {0, 0, 5}, {0, 2, 4}, {1, 0, 4},
            {Integer.MIN_VALUE, 0, 0}, {Integer.MAX_VALUE, 0, 0}, {0, Integer.MIN_VALUE, 0}, {0, Integer.MAX_VALUE, 0},
            {0, 0, Integer.MIN_VALUE}, {0, 0, Integer.MAX_VALUE}};
        for (int[] w : bad) {
            Check.badArgument("way(" + w[0] + ", " + w[1] + ", " + w[2] + ")", () -> x.way(w[0], w[1], w[2]));
        }
    }
}
