/** READING at its edges: how a stream begins, its words, and what each frame begins with. */
public final class EdgesOfWordsTest {
    private static final int FRAME = 336;
    private static final int[] BYTES = {0, 1, 62, 63, 64, 126, 127, 128, 129, 190, 191, 192, 193, 194, 195, 196, 222, 223, 224, 225, 254, 255};

    public static void main(String[] args) {
        mark();
        kindOfTheFirst();
        bytesOfTheFirst();
        blocks();
        blockTwice();
        anything();
        rates();
        channels();
        bits();
        momentsTimesChannels();
        momentsThatWrapAround();
        kindsOfOthers();
        bytesOfOthers();
        lastWords();
        frameBegins();
        assignments();
        firstFrameNumber();
        laterFrameNumbers();
        secondByteOfNumber();
        momentsOfAFrame();
        firstSum();
        noFrames();
        somethingBehind();
        Check.end();
    }

    /** One channel of 8 bits, one frame of one moment. */
    private static Bits small() {
        return new Bits().head(1, 8, 16, 8000, 1).frames(8, 16, 1, 5);
    }

    /** Each value of the item but the good one is a fault there; beyond a few bits those around it, and each bit turned. */
    private static void only(String name, int at, int width, long good, int fault) {
        Reading.good(name + " " + good, small().set(at, width, good), 5);
        if (width <= 8) {
            for (int v = 0; v < 1 << width; v++) {
                if (v != good) {
                    Reading.bad(name + " " + v, small().set(at, width, v), fault, at);
                }
            }
            return;
        }
        for (int i = 0; i < width; i++) {
            Reading.bad(name + ", bit " + i, small().flip(at + i), fault, at);
        }
        for (long v : new long[] {good - 1, good + 1, 0, -1}) {
            Reading.bad(name + " " + v, small().set(at, width, v), fault, at);
        }
    }

    /** "It begins: 32: 0x664C6143." */
    private static void mark() {
        only("the mark", 0, 32, 0x664C6143L, 2);
    }

    /** "The first are of kind 0" */
    private static void kindOfTheFirst() {
        only("kind of the first words", 33, 7, 0, 2);
    }

    /** "and have 34 bytes" */
    private static void bytesOfTheFirst() {
        only("bytes of the first words", 40, 24, 34, 2);
    }

    /** "BLOCK 16 .. 256" */
    private static void blocks() {
        for (int block : new int[] {16, 17, 255, 256}) {
            SoundPacker x = new SoundPacker();
            small().set(64, 16, block).set(80, 16, block).feedTo(x);
            Check.due("BLOCK " + block + ": read()", x.read(), 1);
            Check.due("BLOCK " + block, x.count(3), block);
        }
        for (int block : new int[] {0, 1, 15, 257, 272, 512, 4096, 32768, 32784, 65535}) {
            Reading.bad("BLOCK " + block, small().set(64, 16, block).set(80, 16, block), 2, 64);
        }
    }

    /** "and twice the same" */
    private static void blockTwice() {
        for (int block : new int[] {16, 17, 255, 256}) {
            for (int other : new int[] {0, 15, 16, 17, 18, 254, 255, 256, 257, 272, 65535}) {
                if (other != block) {
                    Reading.bad("BLOCK " + block + ", then " + other, small().set(64, 16, block).set(80, 16, other), 2, 80);
                }
            }
        }
    }

    /** "the 24-bit and the 128-bit numbers are anything" */
    private static void anything() {
        for (long v : new long[] {0, 1, 0x800000, 0x555555, -1}) {
            Reading.good("the first 24 bits", small().set(96, 24, v), 5);
            Reading.good("the second 24 bits", small().set(120, 24, v), 5);
            Reading.good("the first of 128 bits", small().set(208, 64, v), 5);
            Reading.good("the last of 128 bits", small().set(272, 64, v), 5);
        }
    }

    /** "RATE is 1 .. 655350" */
    private static void rates() {
        for (int rate : new int[] {1, 2, 65535, 65536, 655349, 655350}) {
            SoundPacker x = new SoundPacker();
            small().set(144, 20, rate).feedTo(x);
            Check.due("RATE " + rate + ": read()", x.read(), 1);
            Check.due("RATE " + rate, x.count(4), rate);
        }
        for (int rate : new int[] {0, 655351, 655352, 1 << 19 | 1 << 17 | 1 << 16, (1 << 20) - 1}) {
            Reading.bad("RATE " + rate, small().set(144, 20, rate), 2, 144);
        }
    }

    /** "3: CHANNELS - 1": all eight can be. */
    private static void channels() {
        for (int channels = 1; channels <= 8; channels++) {
            int[] v = new int[channels];
            for (int c = 0; c < channels; c++) {
                v[c] = 10 * c - 35;
            }
            SoundPacker x = new SoundPacker();
            new Bits().head(channels, 8, 16, 8000, 17).frames(8, 16, 17, v).feedTo(x);
            Check.due(channels + " channels: read()", x.read(), 17 * channels);
            Check.due(channels + " channels", x.count(1), channels);
            for (int i = 0; i < 17 * channels; i++) {
                Check.due(channels + " channels: sample(" + i + ")", x.sample(i), v[i % channels]);
            }
        }
    }

    /** "BITS 4 .. 24" */
    private static void bits() {
        for (int bits = 1; bits <= 32; bits++) {
            Bits b = new Bits().head(1, bits, 16, 8000, 1).frames(bits, 16, 1, -1);
            if (bits >= 4 && bits <= 24) {
                SoundPacker x = new SoundPacker();
                b.feedTo(x);
                Check.due("BITS " + bits + ": read()", x.read(), 1);
                Check.due("BITS " + bits, x.count(2), bits);
                Check.due("BITS " + bits + ": sample(0)", x.sample(0), -1);
            } else {
                Reading.bad("BITS " + bits, b, 2, 167);
            }
        }
    }

    /** "4: moments times CHANNELS are above 4096" */
    private static void momentsTimesChannels() {
        for (int channels = 1; channels <= 8; channels++) {
            int most = 4096 / channels;
            for (int moments : new int[] {most - 1, most}) {
                SoundPacker x = new SoundPacker();
                new Bits().head(channels, 4, 256, 8000, moments).frames(4, 256, moments, new int[channels]).feedTo(x);
                Check.due(moments + " moments of " + channels + ": read()", x.read(), moments * channels);
                Check.due(moments + " moments of " + channels, x.count(0), moments * channels);
            }
            for (int moments : new int[] {most + 1, most + 2, 4097, 8192}) {
                Reading.bad(moments + " moments of " + channels,
                        new Bits().head(channels, 4, 256, 8000, moments).frame(channels - 1, 0, 256), 4, 172);
            }
        }
        Reading.bad("too many moments, and nothing behind them", small().set(172, 36, 4097).cut(26), 4, 172);
        Reading.bad("just so many moments, and nothing behind them", small().set(172, 36, 4096).cut(26), 1, 208);
    }

    /** What 32 bits, or 36 less some, would take for few moments. */
    private static void momentsThatWrapAround() {
        for (int channels = 1; channels <= 8; channels++) {
            for (int p = 13; p <= 35; p++) {
                for (long more : new long[] {0, 1, 2}) {
                    Bits b = new Bits().head(channels, 8, 16, 8000, (1L << p) + more).frames(8, 16, 1, new int[channels]);
                    Reading.bad("2^" + p + " moments and " + more + " of " + channels, b, 4, 172);
                }
            }
            for (long turn : new long[] {1L << 32, 1L << 33, 1L << 35, 1L << 36}) {
                Bits b = new Bits().head(channels, 8, 16, 8000, Math.min(turn / channels + 1, (1L << 36) - 1));
                Reading.bad("moments times " + channels + " turn around", b, 4, 172);
            }
        }
    }

    private static Bits words(boolean last) {
        return new Bits().put(32, 0x664C6143L).put(1, last ? 1 : 0).put(7, 0).put(24, 34).settings(1, 8, 16, 8000, 1);
    }

    /** "(those behind the first ones, of kinds 1 .. 126)" */
    private static void kindsOfOthers() {
        for (int kind = 0; kind <= 127; kind++) {
            Bits one = words(false).put(1, 1).put(7, kind).put(24, 2).put(16, -1).frames(8, 16, 1, 5);
            Bits two = words(false).put(1, 0).put(7, 5).put(24, 0).put(1, 1).put(7, kind).put(24, 0).frames(8, 16, 1, 5);
            if (kind >= 1 && kind <= 126) {
                Reading.good("other words of kind " + kind, one, 5);
                Reading.good("third words of kind " + kind, two, 5);
            } else {
                Reading.bad("other words of kind " + kind, one, 2, FRAME + 1);
                Reading.bad("third words of kind " + kind, two, 2, FRAME + 33);
            }
        }
        Bits again = words(false).put(1, 1).put(7, 0).put(24, 34).settings(1, 8, 16, 8000, 1).frames(8, 16, 1, 5);
        Reading.bad("the first words twice", again, 2, FRAME + 1);
    }

    /** "24: how many bytes they have, and these": none, some, more than eight bits tell, and more than there are. */
    private static void bytesOfOthers() {
        for (int many : new int[] {0, 1, 2, 34, 255, 256, 257, 300}) {
            Bits b = words(false).put(1, 1).put(7, 4).put(24, many).oneItem("10".repeat(4 * many));
            Reading.good(many + " bytes", b.copy().frames(8, 16, 1, 5), 5);
            Reading.bad(many + " bytes and no frame", b, 1, b.length());
            Bits more = b.copy().set(FRAME + 8, 24, many + 1);
            Reading.bad("one byte too few", more, 1, FRAME + 32);
            Bits none = b.copy().set(172, 36, 0);
            Reading.good(many + " bytes and no samples", none);
            Reading.bad("one byte too few and no samples", none.copy().set(FRAME + 8, 24, many + 1), 1, FRAME + 32);
            if (many > 0) {
                Reading.bad("one byte too many", none.copy().set(FRAME + 8, 24, many - 1), 2, none.length() - 8);
            }
        }
        for (int far : new int[] {19999, 20000, 65536, 1 << 21, 1 << 23, (1 << 24) - 1}) {
            Bits b = words(false).put(1, 1).put(7, 4).put(24, far).frames(8, 16, 1, 5);
            Reading.bad(far + " bytes", b, 1, FRAME + 32);
        }
    }

    /** "WORDS, one or more: 1: whether they are the last ones" */
    private static void lastWords() {
        for (int many = 0; many <= 40; many++) {
            Bits b = words(many == 0);
            for (int i = 1; i <= many; i++) {
                b.put(1, i == many ? 1 : 0).put(7, 1 + i % 126).put(24, i % 3).put(8 * (i % 3), -1);
            }
            Reading.good(many + " other words", b.copy().frames(8, 16, 1, 5), 5);
        }
        // The frame's first bits are taken for words of kind 127, as its first bit is 1.
        Reading.bad("the first words are not the last", words(false).frames(8, 16, 1, 5), 2, FRAME + 1);
        Reading.bad("the first words are not the last, and nothing is behind", words(false), 1, FRAME);
        Bits open = words(false).put(1, 0).put(7, 9).put(24, 1).put(8, 0);
        Reading.bad("the second words are not the last", open.copy().frames(8, 16, 1, 5), 2, open.length() + 1);
        Reading.bad("the second words are not the last, and nothing is behind", open, 1, open.length());
        Bits closed = words(true).put(1, 1).put(7, 9).put(24, 0);
        Reading.bad("words where a frame is due", closed.frames(8, 16, 1, 5), 2, FRAME);
    }

    /** "14: 0x3FFE, 2: 0, 4: 6, 4: 0, 4: the ASSIGNMENT, 4: 0": "it can't be so" otherwise. */
    private static void frameBegins() {
        only("14 bits", FRAME, 14, 0x3FFE, 2);
        only("2 bits", FRAME + 14, 2, 0, 2);
        only("4 bits", FRAME + 16, 4, 6, 2);
        only("4 bits more", FRAME + 20, 4, 0, 2);
        only("assignment", FRAME + 24, 4, 0, 2);
        only("the last 4 bits", FRAME + 28, 4, 0, 2);
    }

    /** "CHANNELS - 1: each channel itself. With two channels l and r also 8 .. 9 .. 10" */
    private static void assignments() {
        for (int channels = 1; channels <= 8; channels++) {
            for (int a = 0; a < 16; a++) {
                Bits b = new Bits().head(channels, 8, 16, 8000, 1).frame(a, 0, 1);
                for (int c = 0; c < channels; c++) {
                    b.subframe(0).put(Model.side(a, c) && channels == 2 ? 9 : 8, 0);
                }
                b.endFrame();
                String name = channels + " channels, assignment " + a;
                if (a == channels - 1 || channels == 2 && a >= 8 && a <= 10) {
                    Reading.good(name, b, new int[channels]);
                } else {
                    Reading.bad(name, b, 2, FRAME + 24);
                }
            }
        }
    }

    private static boolean canBeFirst(int b) {
        return b < 128 || b >= 192 && b < 224;
    }

    /** "the first byte of a number is 0 .. 127 or 192 .. 223"; "a byte of a frame's number isn't that of its own" */
    private static void firstFrameNumber() {
        Reading.good("number 0", small(), 5);
        for (int v = 1; v < 256; v++) {
            Reading.bad("number byte " + v, small().set(FRAME + 32, 8, v), canBeFirst(v) ? 4 : 2, FRAME + 32);
        }
        // Two bytes for a number below 128 are not its own, however right they add up.
        Bits two = new Bits().head(1, 8, 16, 8000, 1);
        two.put(14, 0x3FFE).put(2, 0).put(4, 6).put(4, 0).put(4, 0).put(4, 0).put(8, 192).put(8, 128).put(8, 0);
        Reading.bad("number 0 in two bytes", two.put(64, 0), 4, FRAME + 32);
    }

    /** A stream of 256 frames, told up to where the frame's number begins. */
    private static Bits upTo(int frame) {
        Bits b = new Bits().head(1, 4, 16, 8000, 4096).frames(4, 16, 16 * frame, 1);
        return b.put(14, 0x3FFE).put(2, 0).put(4, 6).put(4, 0).put(4, 0).put(4, 0);
    }

    private static void laterFrameNumbers() {
        for (int frame : new int[] {1, 63, 64, 127, 128, 191, 192, 255}) {
            Bits b = upTo(frame);
            int own = frame < 128 ? frame : 192 + frame / 64;
            for (int v : BYTES) {
                if (v != own) {
                    Reading.bad("frame " + frame + ", byte " + v, b.copy().put(8, v).put(64, 0), canBeFirst(v) ? 4 : 2, b.length());
                }
            }
            Reading.bad("frame " + frame + ", its own byte", b.copy().put(8, own), 1, b.length() + 8);
            Reading.bad("frame " + frame + ", no byte", b, 1, b.length());
        }
        // One byte for a number from 128 on can't be so, nor can 128 itself be a first byte.
        Reading.bad("frame 128 in one byte", upTo(128).put(8, 128).put(8, 15), 2, upTo(128).length());
    }

    /** "the second 128 .. 191" */
    private static void secondByteOfNumber() {
        for (int frame : new int[] {128, 129, 191, 192, 255}) {
            Bits b = upTo(frame).put(8, 192 + frame / 64);
            int own = 128 + frame % 64;
            for (int v : BYTES) {
                if (v != own) {
                    Reading.bad("frame " + frame + ", second byte " + v, b.copy().put(8, v).put(64, 0), v >= 128 && v < 192 ? 4 : 2, b.length());
                }
            }
            Bits whole = b.copy().put(8, own);
            Reading.bad("frame " + frame + ", its own second byte, and wrong moments", whole.copy().put(8, 14).put(64, 0), 4, whole.length());
            Reading.bad("frame " + frame + ", its own second byte", whole, 1, whole.length());
        }
        SoundPacker x = new SoundPacker();
        new Bits().head(1, 4, 16, 8000, 4096).frames(4, 16, 4096, 1).feedTo(x);
        Check.due("256 frames", x.read(), 4096);
    }

    /** "it hasn't BLOCK moments or what is left" */
    private static void momentsOfAFrame() {
        for (int moments : new int[] {1, 15, 16, 17, 31, 32, 33}) {
            Bits b = new Bits().head(1, 8, 16, 8000, moments).frames(8, 16, moments, 5);
            for (int f = 0; f * 16 < moments; f++) {
                int own = Math.min(16, moments - 16 * f);
                int at = FRAME + f * 11 * 8 + 40;
                for (int v : new int[] {0, 1, own - 2, own - 1, own, 14, 15, 16, 31, 128, 255}) {
                    if (v >= 0 && v != own - 1) {
                        Reading.bad(moments + " moments, frame " + f + " says " + v, b.copy().set(at, 8, v), 4, at);
                    }
                }
            }
            SoundPacker x = new SoundPacker();
            b.feedTo(x);
            Check.due(moments + " moments: read()", x.read(), moments);
        }
        Bits most = new Bits().head(1, 8, 256, 8000, 256).frames(8, 256, 256, 5);
        SoundPacker x = new SoundPacker();
        most.feedTo(x);
        Check.due("256 moments: read()", x.read(), 256);
        for (int v : new int[] {0, 254}) {
            Reading.bad("256 moments, " + v, most.copy().set(FRAME + 40, 8, v), 4, FRAME + 40);
        }
    }

    /** "3: a sum is another one", the first over all bytes ahead of it. */
    private static void firstSum() {
        Bits b = small();
        int own = b.octet((FRAME + 48) / 8);
        only("the first sum", FRAME + 48, 8, own, 3);
        Bits later = new Bits().head(1, 8, 16, 8000, 17).frames(8, 16, 17, 5);
        for (int i = 0; i < 8; i++) {
            Reading.bad("the first sum of frame 1, bit " + i, later.copy().flip(FRAME + 88 + 48 + i), 3, FRAME + 88 + 48);
        }
    }

    /** "none at all without samples" */
    private static void noFrames() {
        for (int channels = 1; channels <= 8; channels++) {
            Bits b = new Bits().head(channels, 24, 256, 655350, 0);
            Reading.good("no samples of " + channels, b);
            Reading.bad("no samples, and a frame of one moment", b.copy().frames(24, 256, 1, new int[channels]), 2, FRAME);
            Reading.bad("one moment and no frame", b.copy().set(172, 36, 1), 1, FRAME);
        }
    }

    /** "or something stands behind the last frame (there)" */
    private static void somethingBehind() {
        for (int moments : new int[] {1, 16, 17, 32}) {
            Bits b = new Bits().head(1, 8, 16, 8000, moments).frames(8, 16, moments, 5);
            for (int v : new int[] {0, 1, 128, 255}) {
                Reading.bad("a byte behind", b.copy().put(8, v), 2, b.length());
            }
            Reading.bad("many bytes behind", b.copy().put(64, 0).put(64, 0), 2, b.length());
            Reading.bad("a frame behind", b.copy().frame(0, (moments + 15) / 16, 1).subframe(0).put(8, 5).endFrame(), 2, b.length());
            Reading.bad("a stream behind", b.copy().add(b.text()), 2, b.length());
        }
    }
}
