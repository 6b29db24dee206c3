import java.util.function.Consumer;

/** Promises 11 to 14: read, fault, place and sample, on streams written and harmed by hand. */
public final class ReadTest {
    private static final int SUBFRAME = 392;

    public static void main(String[] args) {
        everyType();
        residualsThatAreNeverMade();
        otherWords();
        wrongHead();
        settingsOfAStream();
        wrongFrameHead();
        wrongFrameNumber();
        wrongSubframe();
        wrongLinear();
        wrongResiduals();
        numbersTooFar();
        wrongSums();
        wrongChannels();
        ends();
        olderTape();
        behind();
        stateStays();
        Check.end();
    }

    private static void good(String name, Bits b, int... samples) {
        SoundPacker x = new SoundPacker();
        b.feedTo(x);
        Check.due(name + ": read()", x.read(), samples.length);
        Check.due(name + ": count(0)", x.count(0), samples.length);
        for (int i = 0; i < samples.length; i++) {
            Check.due(name + ": sample(" + i + ")", x.sample(i), samples[i]);
        }
        Check.badArgument(name + ": the next sample", () -> x.sample(samples.length));
        Check.due(name + ": fault()", x.fault(), 0);
        Check.due(name + ": place()", x.place(), -1);
        Check.due(name + ": the tape", x.count(7), 0);
    }

    private static void bad(String name, Bits b, int fault, int place) {
        SoundPacker x = new SoundPacker();
        b.feedTo(x);
        Check.badArgument(name + ": read()", x::read);
        Check.due(name + ": fault()", x.fault(), fault);
        Check.due(name + ": place()", x.place(), place);
        Check.due(name + ": the tape", x.count(7), 0);
        Check.due(name + ": samples", x.count(0), 0);
        Check.due(name + ": BLOCK", x.count(3), 64);
    }

    /** One channel of 8 bits, one frame of n moments: its head. */
    private static Bits one(int n) {
        return new Bits().head(1, 8, 16, 8000, n).frame(0, 0, n);
    }

    private static Bits type(Bits b, int type) {
        return b.put(1, 0).put(6, type).put(1, 0);
    }

    private static void everyType() {
        good("constant", type(one(3), 0).put(8, -128).endFrame(), -128, -128, -128);
        good("verbatim", type(one(3), 1).put(8, -128).put(8, 127).put(8, 0).endFrame(), -128, 127, 0);
        good("fixed 0", type(one(2), 8).put(6, 0).put(4, 0).row(4).row(3).endFrame(), 2, -2);
        good("fixed 1", type(one(2), 9).put(8, 50).put(6, 0).put(4, 1).row(1).put(1, 1).endFrame(), 50, 48);
        good("fixed 2", type(one(3), 10).put(8, 50).put(8, 55).put(6, 0).put(4, 0).row(0).endFrame(), 50, 55, 60);
        good("fixed 3", type(one(4), 11).put(8, 1).put(8, 4).put(8, 9).put(6, 0).put(4, 0).row(0).endFrame(), 1, 4, 9, 16);
        good("fixed 4", type(one(5), 12).put(8, 1).put(8, 8).put(8, 27).put(8, 64).put(6, 0).put(4, 0).row(0).endFrame(),
                1, 8, 27, 64, 125);
        good("as many first ones as numbers", type(one(2), 10).put(8, 5).put(8, 9).put(6, 0).put(4, 3).endFrame(), 5, 9);
        // (3 * 7 - 2 * -5) through 4, down: 7; (3 * 8 - 2 * 7) through 4: 2.
        good("linear 2", type(one(4), 33).put(8, -5).put(8, 7).put(4, 2).put(5, 2).put(3, 3).put(3, -2)
                .put(6, 0).put(4, 0).row(2).row(0).endFrame(), -5, 7, 8, 2);
        // -3 through 2, down: -2.
        good("linear 1, down", type(one(2), 32).put(8, 3).put(4, 0).put(5, 1).put(1, -1).put(6, 0).put(4, 0).row(0).endFrame(), 3, -2);
        Bits b = type(new Bits().head(1, 8, 40, 8000, 33).frame(0, 0, 33), 63);
        int[] due = new int[33];
        for (int i = 0; i < 32; i++) {
            b.put(8, i);
            due[i] = i;
        }
        b.put(4, 14).put(5, 15);
        for (int j = 0; j < 32; j++) {
            b.put(15, j == 31 ? 0 : 16383);
        }
        // 16383 * 496 through 32768, down: 247; less 240 by the residual.
        due[32] = 7;
        good("linear 32", b.put(6, 0).put(4, 8).row(1).put(8, (2 * 240 - 1) % 256).endFrame(), due);
        good("wasted", one(2).put(1, 0).put(6, 1).put(1, 1).row(6).put(1, 1).put(1, 0).endFrame(), -128, 0);
        good("zeros that waste", one(2).put(1, 0).put(6, 0).put(1, 1).row(1).put(6, 0).endFrame(), 0, 0);
        good("no samples", new Bits().head(3, 8, 16, 8000, 0));
        Bits two = new Bits().head(2, 8, 16, 8000, 1);
        good("each itself", type(type(two.copy().frame(1, 0, 1), 0).put(8, 5), 0).put(8, -7).endFrame(), 5, -7);
    }

    private static Bits pair(int assignment, long first, int firstBits, long second, int secondBits) {
        Bits b = new Bits().head(2, 8, 16, 8000, 1).frame(assignment, 0, 1);
        return type(type(b, 0).put(firstBits, first), 0).put(secondBits, second).endFrame();
    }

    private static void residualsThatAreNeverMade() {
        good("2: 1", type(one(2), 8).put(2, 1).put(4, 0).put(5, 16).row(0).put(16, 7).row(0).put(16, 8).endFrame(), -4, 4);
        good("2: 1 and K 15", type(one(1), 8).put(2, 1).put(4, 0).put(5, 15).row(0).put(15, 200).endFrame(), 100);
        good("2: 1 and K 30", type(one(1), 8).put(2, 1).put(4, 0).put(5, 30).row(0).put(30, 201).endFrame(), -101);
        good("B 5", type(one(2), 8).put(2, 0).put(4, 0).put(4, 15).put(5, 5).put(5, -16).put(5, 15).endFrame(), -16, 15);
        good("B 31", type(one(2), 8).put(2, 0).put(4, 0).put(4, 15).put(5, 31).put(31, -128).put(31, 127).endFrame(), -128, 127);
        good("B 0", type(one(3), 9).put(8, 9).put(2, 0).put(4, 0).put(4, 15).put(5, 0).endFrame(), 9, 9, 9);
        good("2: 1 and B 1", type(one(2), 8).put(2, 1).put(4, 0).put(5, 31).put(5, 1).put(1, -1).put(1, 0).endFrame(), -1, 0);
        // Four parts of one number each, and the first of them has nothing but its K.
        good("order 2", type(one(4), 9).put(8, 3).put(2, 0).put(4, 2).put(4, 7).put(4, 0).row(2).put(4, 1).row(0).put(1, 1)
                .put(4, 15).put(5, 2).put(2, 1).endFrame(), 3, 4, 3, 4);
        Bits b = type(new Bits().head(1, 8, 16, 8000, 16).frame(0, 0, 16), 8).put(2, 0).put(4, 4);
        int[] due = new int[16];
        for (int i = 0; i < 16; i++) {
            b.put(4, 0).row(2 * i);
            due[i] = i;
        }
        good("order 4", b.endFrame(), due);
    }

    private static Bits wordsOf(int... kinds) {
        Bits b = new Bits().put(32, 0x664C6143L).put(1, kinds.length == 0 ? 1 : 0).put(7, 0).put(24, 34).settings(1, 8, 16, 8000, 1);
        for (int i = 0; i < kinds.length; i++) {
            b.put(1, i == kinds.length - 1 ? 1 : 0).put(7, kinds[i]).put(24, i);
            for (int j = 0; j < i; j++) {
                b.put(8, 255);
            }
        }
        return b;
    }

    private static void otherWords() {
        good("other words", type(wordsOf(1, 126, 4, 4).frame(0, 0, 1), 0).put(8, 5).endFrame(), 5);
        bad("kind 0 once more", type(wordsOf(1, 0).frame(0, 0, 1), 0).put(8, 5).endFrame(), 2, 336 + 32 + 1);
        bad("kind 127", type(wordsOf(127).frame(0, 0, 1), 0).put(8, 5).endFrame(), 2, 337);
        Bits b = wordsOf(3, 5, 6);
        bad("other words end in their bytes", b.copy().cut(b.bytes() - 1), 1, 336 + 32 + 40 + 32);
        bad("other words end ahead of their bytes", b.copy().cut(b.bytes() - 2), 1, 336 + 32 + 40 + 32);
        bad("other words end in their length", b.copy().cut(b.bytes() - 3), 1, 336 + 32 + 40 + 8);
        bad("other words are missing", wordsOf(3).cut(42), 1, 336);
        bad("other words say too much", wordsOf(3).set(344, 24, 0xFFFFFF), 1, 368);
        bad("the frame is missing", b, 1, b.length());
    }

    private static void wrongHead() {
        Bits b = type(one(1), 0).put(8, 5).endFrame();
        int[][] changes = {
            {0, 32, 0x664C6142, 2, 0}, {33, 7, 1, 2, 33}, {33, 7, 127, 2, 33}, {40, 24, 33, 2, 40}, {40, 24, 35, 2, 40},
            {64, 16, 15, 2, 64}, {64, 16, 257, 2, 64}, {64, 16, 17, 2, 80}, {80, 16, 17, 2, 80}, {80, 16, 0, 2, 80},
            {144, 20, 0, 2, 144}, {144, 20, 655351, 2, 144}, {144, 20, 0xFFFFF, 2, 144},
            {167, 5, 2, 2, 167}, {167, 5, 0, 2, 167}, {167, 5, 24, 2, 167}, {167, 5, 31, 2, 167},
            {172, 36, 4097, 4, 172}, {172, 4, 15, 4, 172}, {172, 36, 2, 4, 376}, {172, 36, 4096, 4, 376},
            {164, 3, 1, 2, 360}, {172, 36, 0, 2, 336}};
        for (int[] c : changes) {
            bad("head at " + c[0] + ": " + c[2], b.copy().set(c[0], c[1], c[2]), c[3], c[4]);
        }
        for (int channels = 2; channels <= 8; channels++) {
            Bits many = b.copy().set(164, 3, channels - 1);
            bad("moments times " + channels, many.copy().set(172, 36, 4096 / channels + 1), 4, 172);
            bad("just so many moments", many.copy().set(172, 36, 4096 / channels), 2, 360);
        }
        bad("too many moments, and then the end", b.copy().set(172, 36, 4097).cut(26), 4, 172);
        good("anything in the 24 and 128 bits", b.copy().set(96, 24, -1).set(120, 24, -1).set(208, 64, -1).set(272, 64, -1), 5);
        good("the greatest RATE", b.copy().set(144, 20, 655350), 5);
        good("the least RATE", b.copy().set(144, 20, 1), 5);
        good("the greatest BLOCK", b.copy().set(64, 16, 256).set(80, 16, 256), 5);
    }

    private static void settingsOfAStream() {
        SoundPacker x = new SoundPacker();
        new Bits().head(7, 23, 255, 655350, 0).feedTo(x);
        Check.due("read()", x.read(), 0);
        Check.due("CHANNELS", x.count(1), 7);
        Check.due("BITS", x.count(2), 23);
        Check.due("BLOCK", x.count(3), 255);
        Check.due("RATE", x.count(4), 655350);
    }

    private static void wrongFrameHead() {
        Bits b = type(one(1), 0).put(8, 5).endFrame();
        int[][] changes = {
            {336, 14, 0x3FFF, 2, 336}, {350, 2, 1, 2, 350}, {350, 2, 2, 2, 350}, {352, 4, 7, 2, 352}, {356, 4, 9, 2, 356},
            {360, 4, 1, 2, 360}, {360, 4, 8, 2, 360}, {360, 4, 10, 2, 360}, {364, 4, 1, 2, 364},
            {368, 8, 1, 4, 368}, {368, 8, 127, 4, 368}, {368, 8, 128, 2, 368}, {368, 8, 191, 2, 368}, {368, 8, 192, 4, 368},
            {368, 8, 223, 4, 368}, {368, 8, 224, 2, 368}, {368, 8, 255, 2, 368}, {376, 8, 1, 4, 376}, {376, 8, 255, 4, 376},
            {384, 8, 0, 3, 384}};
        for (int[] c : changes) {
            bad("frame at " + c[0] + ": " + c[2], b.copy().set(c[0], c[1], c[2]), c[3], c[4]);
        }
        for (int a = 0; a < 16; a++) {
            if (a != 1 && (a < 8 || a > 10)) {
                bad("assignment " + a, pair(a, 0, 8, 0, 8), 2, 360);
            }
        }
    }

    /** 130 frames of one number each but for the first ones' sixteen. */
    private static void wrongFrameNumber() {
        Bits b = new Bits().head(1, 4, 16, 8000, 129 * 16 + 1);
        int at = 0;
        for (int f = 0; f < 130; f++) {
            at = b.length() + 32;
            type(b.frame(0, f, f < 129 ? 16 : 1), 0).put(4, 1).endFrame();
        }
        SoundPacker x = new SoundPacker();
        b.feedTo(x);
        Check.due("130 frames", x.read(), 129 * 16 + 1);
        int[][] changes = {{0, 193, 4, 0}, {0, 195, 4, 0}, {0, 127, 4, 0}, {0, 224, 2, 0}, {0, 150, 2, 0},
            {8, 128, 4, 8}, {8, 130, 4, 8}, {8, 191, 4, 8}, {8, 192, 2, 8}, {8, 127, 2, 8}, {8, 1, 2, 8}, {16, 15, 4, 16}};
        for (int[] c : changes) {
            bad("number " + c[1], b.copy().set(at + c[0], 8, c[1]), c[2], at + c[3]);
        }
    }

    private static void wrongSubframe() {
        bad("the first bit", one(1).put(1, 1).put(6, 0).put(1, 0).put(8, 5).endFrame(), 2, SUBFRAME);
        for (int t = 0; t < 64; t++) {
            int o = t > 31 ? t - 31 : t >= 8 && t <= 12 ? t - 8 : t < 2 ? 0 : -1;
            if (o < 0 || o > 3) {
                bad("type " + t, type(one(3), t).put(64, 0).endFrame(), 2, SUBFRAME + 1);
            }
        }
        bad("eight of eight bits wasted", one(1).put(1, 0).put(6, 0).put(1, 1).row(7).put(8, 0).endFrame(), 2, SUBFRAME + 8);
        good("seven of eight", one(1).put(1, 0).put(6, 0).put(1, 1).row(6).put(1, 1).endFrame(), -128);
        bad("far too many", one(1).put(1, 0).put(6, 0).put(1, 1).row(70).endFrame(), 2, SUBFRAME + 8);
        bad("wasted without an end", one(1).put(1, 0).put(6, 0).put(1, 1).put(32, 0), 1, SUBFRAME + 8);
        Bits padded = type(one(1), 8).put(6, 0).put(4, 0).row(4);
        bad("bits up to a whole byte", padded.copy().put(1, 1).put(16, 0), 2, padded.length());
        Bits seven = type(one(1), 8).put(6, 0).put(4, 0).row(6);
        bad("the last of seven", seven.copy().put(7, 1).put(16, 0), 2, seven.length());
    }

    private static Bits linear(int precision, int shift) {
        Bits b = type(one(2), 32).put(8, 4).put(4, precision - 1).put(5, shift);
        return b.put(precision, 0).put(6, 0).put(4, 0).row(0).endFrame();
    }

    private static void wrongLinear() {
        good("P 15, shift 15", linear(15, 15), 4, 0);
        bad("P 16", linear(16, 0), 2, SUBFRAME + 16);
        bad("shift 16", linear(15, 16), 2, SUBFRAME + 20);
        bad("shift 31", linear(1, 31), 2, SUBFRAME + 20);
    }

    private static void wrongResiduals() {
        bad("2: 2", type(one(2), 8).put(2, 2).put(64, -1).put(64, -1), 2, SUBFRAME + 8);
        bad("2: 3", type(one(2), 8).put(2, 3).put(64, -1).put(64, -1), 2, SUBFRAME + 8);
        bad("2^q doesn't go into n", type(one(6), 8).put(2, 0).put(4, 2).put(64, -1), 2, SUBFRAME + 10);
        bad("2^q is above n", type(one(6), 8).put(2, 0).put(4, 15).put(64, -1), 2, SUBFRAME + 10);
        bad("a part is shorter than the first ones", type(one(4), 10).put(16, 0).put(2, 0).put(4, 2).put(64, -1), 2, SUBFRAME + 26);
        good("a part is just as long", type(one(4), 10).put(16, 0).put(2, 0).put(4, 1).put(4, 0).put(4, 0).row(0).row(0).endFrame(), 0, 0, 0, 0);
    }

    private static void numbersTooFar() {
        int at = SUBFRAME + 8 + 6 + 4;
        good("127", type(one(1), 8).put(6, 0).put(4, 7).row(1).put(7, 126).endFrame(), 127);
        good("-128", type(one(1), 8).put(6, 0).put(4, 7).row(1).put(7, 127).endFrame(), -128);
        bad("128", type(one(1), 8).put(6, 0).put(4, 7).row(2).put(7, 0).endFrame(), 2, at);
        bad("-129", type(one(1), 8).put(6, 0).put(4, 7).row(2).put(7, 1).endFrame(), 2, at);
        bad("the second", type(one(2), 8).put(6, 0).put(4, 7).row(0).put(7, 0).row(2).put(7, 1).endFrame(), 2, at + 8);
        bad("by B bits", type(one(2), 8).put(6, 0).put(4, 15).put(5, 9).put(9, 0).put(9, 128).endFrame(), 2, at + 5 + 9);
        bad("by 31 bits", type(one(1), 8).put(6, 0).put(4, 15).put(5, 31).put(31, 1 << 30).endFrame(), 2, at + 5);
        bad("by B = 0", type(one(3), 10).put(8, 0).put(8, 100).put(6, 0).put(4, 15).put(5, 0).endFrame(), 2, at + 16 + 5);
        bad("by B = 0 at the very end", type(one(3), 10).put(8, 0).put(8, 100).put(6, 0).put(4, 15).put(5, 0).put(1, 0), 2, at + 16 + 5);
        bad("with wasted bits", one(1).put(1, 0).put(6, 8).put(1, 1).row(3).put(6, 0).put(4, 0).row(16).endFrame(), 2, at + 4);
        good("just not", one(1).put(1, 0).put(6, 8).put(1, 1).row(3).put(6, 0).put(4, 0).row(15).endFrame(), -128);
        bad("K 30 and a long row", type(one(1), 8).put(2, 1).put(4, 0).put(5, 30).row(900).put(30, 0).endFrame(), 2, at + 1);
        bad("u ends in its second item", type(one(1), 8).put(6, 0).put(4, 14).row(900).put(5, 0), 1, at + 901);
        bad("u ends in its first item", type(one(1), 8).put(6, 0).put(4, 14).put(62, 0), 1, at);
    }

    private static void wrongSums() {
        Bits b = type(one(1), 0).put(8, 5).endFrame();
        for (int i = 0; i < 8; i++) {
            bad("first sum, bit " + i, b.copy().flip(384 + i), 3, 384);
        }
        for (int i = 0; i < 16; i++) {
            bad("second sum, bit " + i, b.copy().flip(b.length() - 16 + i), 3, b.length() - 16);
        }
        bad("a number that was changed", b.copy().flip(SUBFRAME + 9), 3, b.length() - 16);
        bad("the second sum lacks a byte", b.copy().cut(b.bytes() - 1), 1, b.length() - 16);
        bad("the second sum is missing", b.copy().cut(b.bytes() - 2), 1, b.length() - 16);
    }

    private static void wrongChannels() {
        good("8", pair(8, 127, 8, 255, 9), 127, -128);
        good("9", pair(9, -255, 9, 127, 8), -128, 127);
        good("10", pair(10, -1, 8, -255, 9), -128, 127);
        good("10, both odd", pair(10, -1, 8, 255, 9), 127, -128);
        good("10, -3 and -4", pair(10, -4, 8, 1, 9), -3, -4);
        Bits[] wrong = {pair(8, 127, 8, 256, 9), pair(8, 127, 8, -1, 9), pair(8, -128, 8, 1, 9), pair(9, 1, 9, 127, 8),
            pair(9, -1, 9, -128, 8), pair(10, 127, 8, 2, 9), pair(10, 127, 8, -2, 9), pair(10, -128, 8, 3, 9),
            // -256 halves to -128 and 128.
            pair(10, 0, 8, -256, 9)};
        for (int i = 0; i < wrong.length; i++) {
            bad("channel case " + i, wrong[i].copy(), 4, wrong[i].length() - 16);
            bad("channel case " + i + " and its sum", wrong[i].copy().flip(wrong[i].length() - 1), 3, wrong[i].length() - 16);
        }
    }

    /** Cut behind each byte: the fault is 1 at the item that the cut goes through or stands ahead of. */
    private static void ends() {
        int[] items = {0, 32, 33, 40, 64, 80, 96, 120, 144, 164, 167, 172, 208, 336, 350, 352, 356, 360, 364, 368, 376, 384,
            392, 393, 399, 400, 408, 416, 420, 425, 440, 455, 457, 461, 465, 472};
        Bits b = type(one(2), 33).put(8, 1).put(8, 2).put(4, 14).put(5, 3).put(15, 9).put(15, 9)
                .put(2, 0).put(4, 0).put(4, 0).endFrame();
        for (int bytes = 0; bytes < b.bytes(); bytes++) {
            int place = 0;
            for (int item : items) {
                place = item <= 8 * bytes ? item : place;
            }
            bad("cut behind " + bytes + " bytes", b.copy().cut(bytes), 1, place);
        }
        good("not cut", b, 1, 2);
    }

    /** What an older tape held behind the end of this one is not read. */
    private static void olderTape() {
        SoundPacker x = new SoundPacker();
        Bits b = type(one(1), 8).put(6, 0).put(4, 0);
        int row = b.length();
        b.copy().put(22, 0).put(64, -1).feedTo(x);
        Check.badArgument("read() of the older one", x::read);
        b.copy().put(22, 0).feedTo(x);
        Check.badArgument("read()", x::read);
        Check.due("fault()", x.fault(), 1);
        Check.due("place()", x.place(), row);
    }

    private static void behind() {
        Bits b = type(one(1), 0).put(8, 5).endFrame();
        bad("a byte behind the last frame", b.copy().put(8, 0), 2, b.length());
        bad("a frame behind the last frame", type(b.copy().frame(0, 1, 1), 0).put(8, 5).endFrame(), 2, b.length());
        bad("a byte behind no frames", new Bits().head(1, 8, 16, 8000, 0).put(8, 0), 2, 336);
    }

    private static void stateStays() {
        SoundPacker x = new SoundPacker();
        x.shape(2, 12, 32, 11025);
        x.predict(3);
        x.coefficient(7);
        x.push(-2048);
        x.push(2047);
        int made = x.make();
        Bits b = type(one(1), 0).put(8, 5).endFrame();
        Consumer<String> unchanged = name -> {
            int[] due = {2, 2, 12, 32, 11025, made, 1, 0, 1};
            for (int what = 0; what < due.length; what++) {
                Check.due(name + ": count(" + what + ")", x.count(what), due[what]);
            }
            Check.due(name + ": sample(0)", x.sample(0), -2048);
            Check.due(name + ": sample(1)", x.sample(1), 2047);
        };
        b.copy().flip(b.length() - 1).feedTo(x);
        Check.badArgument("read()", x::read);
        unchanged.accept("behind a wrong sum");
        Check.due("fault()", x.fault(), 3);
        Check.due("fault() once more", x.fault(), 3);
        Check.due("place()", x.place(), b.length() - 16);
        x.push(0);
        Check.due("fault() stays behind other calls", x.fault(), 3);
        b.feedTo(x);
        Check.due("fault() stays behind feed", x.fault(), 3);
        Check.due("read()", x.read(), 1);
        Check.due("fault()", x.fault(), 0);
        Check.due("place()", x.place(), -1);
        Check.due("sample(0)", x.sample(0), 5);
        Check.due("CHANNELS", x.count(1), 1);
        Check.due("BITS", x.count(2), 8);
        Check.due("BLOCK", x.count(3), 16);
        Check.due("RATE", x.count(4), 8000);
        Check.due("the predictor stays", x.count(8), 1);
        x.push(127);
        Check.badArgument("BITS hold for push", () -> x.push(128));
        Check.due("samples go on", x.count(0), 2);
        Check.badArgument("read() of nothing", x::read);
        Check.due("fault()", x.fault(), 1);
        Check.due("place()", x.place(), 0);
        Check.due("samples stay", x.count(0), 2);
    }
}
