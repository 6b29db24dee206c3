import java.util.function.Consumer;

/** Promises 11 to 14: read, fault, place and sample, on streams written and harmed by hand. */
public final class ReadTest {
    private static final int SUBFRAME = 392;

    public static void main(String[] args) {
        everyType();
        residualsThatAreNeverMade();
        otherWords();
        wrongHead();
        settingsOfAStream();
        wrongFrameHead();
        wrongFrameNumber();
        wrongSubframe();
        wrongLinear();
        wrongResiduals();
        numbersTooFar();
        wrongSums();
        wrongChannels();
        ends();
        olderTape();
        behind();
        stateStays();
        Check.end();
    }

    /** One channel of 8 bits, one frame of n moments: its head. */
    private static Bits one(int n) {
        return new Bits().head(1, 8, 16, 8000, n).frame(0, 0, n);
    }

    private static void everyType() {
        Reading.good("constant", one(3).subframe(0).put(8, -128).endFrame(), -128, -128, -128);
        Reading.good("verbatim", one(3).subframe(1).put(8, -128).put(8, 127).put(8, 0).endFrame(), -128, 127, 0);
        Reading.good("fixed 0", one(2).subframe(8).put(6, 0).put(4, 0).row(4).row(3).endFrame(), 2, -2);
        Reading.good("fixed 1", one(2).subframe(9).put(8, 50).put(6, 0).put(4, 1).row(1).put(1, 1).endFrame(), 50, 48);
        Reading.good("fixed 2", one(3).subframe(10).put(8, 50).put(8, 55).put(6, 0).put(4, 0).row(0).endFrame(), 50, 55, 60);
        Reading.good("fixed 3", one(4).subframe(11).put(8, 1).put(8, 4).put(8, 9).put(6, 0).put(4, 0).row(0).endFrame(), 1, 4, 9, 16);
        Reading.good("fixed 4", one(5).subframe(12).put(8, 1).put(8, 8).put(8, 27).put(8, 64).put(6, 0).put(4, 0).row(0).endFrame(),
                1, 8, 27, 64, 125);
        Reading.good("as many first ones as numbers", one(2).subframe(10).put(8, 5).put(8, 9).put(6, 0).put(4, 3).endFrame(), 5, 9);
        // (3 * 7 - 2 * -5) through 4, down: 7; (3 * 8 - 2 * 7) through 4: 2.
        Reading.good("linear 2", one(4).subframe(33).put(8, -5).put(8, 7).put(4, 2).put(5, 2).put(3, 3).put(3, -2)
                .put(6, 0).put(4, 0).row(2).row(0).endFrame(), -5, 7, 8, 2);
        // -3 through 2, down: -2.
        Reading.good("linear 1, down", one(2).subframe(32).put(8, 3).put(4, 0).put(5, 1).put(1, -1).put(6, 0).put(4, 0).row(0).endFrame(), 3, -2);
        Bits b = new Bits().head(1, 8, 40, 8000, 33).frame(0, 0, 33).subframe(63);
        int[] due = new int[33];
        for (int i = 0; i < 32; i++) {
            b.put(8, i);
            due[i] = i;
        }
        b.put(4, 14).put(5, 15);
        for (int j = 0; j < 32; j++) {
            b.put(15, j == 31 ? 0 : 16383);
        }
        // 16383 * 496 through 32768, down: 247; less 240 by the residual.
        due[32] = 7;
        Reading.good("linear 32", b.put(6, 0).put(4, 8).row(1).put(8, (2 * 240 - 1) % 256).endFrame(), due);
        Reading.good("wasted", one(2).subframe(1, 7).put(1, 1).put(1, 0).endFrame(), -128, 0);
        Reading.good("zeros that waste", one(2).subframe(0, 2).put(6, 0).endFrame(), 0, 0);
        Reading.good("no samples", new Bits().head(3, 8, 16, 8000, 0));
        Bits two = new Bits().head(2, 8, 16, 8000, 1);
        Reading.good("each itself", two.copy().frame(1, 0, 1).subframe(0).put(8, 5).subframe(0).put(8, -7).endFrame(), 5, -7);
    }

    private static Bits pair(int assignment, long first, int firstBits, long second, int secondBits) {
        Bits b = new Bits().head(2, 8, 16, 8000, 1).frame(assignment, 0, 1);
        return b.subframe(0).put(firstBits, first).subframe(0).put(secondBits, second).endFrame();
    }

    private static void residualsThatAreNeverMade() {
        Reading.good("2: 1", one(2).subframe(8).put(2, 1).put(4, 0).put(5, 16).row(0).put(16, 7).row(0).put(16, 8).endFrame(), -4, 4);
        Reading.good("2: 1 and K 15", one(1).subframe(8).put(2, 1).put(4, 0).put(5, 15).row(0).put(15, 200).endFrame(), 100);
        Reading.good("2: 1 and K 30", one(1).subframe(8).put(2, 1).put(4, 0).put(5, 30).row(0).put(30, 201).endFrame(), -101);
        Reading.good("B 5", one(2).subframe(8).put(2, 0).put(4, 0).put(4, 15).put(5, 5).put(5, -16).put(5, 15).endFrame(), -16, 15);
        Reading.good("B 31", one(2).subframe(8).put(2, 0).put(4, 0).put(4, 15).put(5, 31).put(31, -128).put(31, 127).endFrame(), -128, 127);
        Reading.good("B 0", one(3).subframe(9).put(8, 9).put(2, 0).put(4, 0).put(4, 15).put(5, 0).endFrame(), 9, 9, 9);
        Reading.good("2: 1 and B 1", one(2).subframe(8).put(2, 1).put(4, 0).put(5, 31).put(5, 1).put(1, -1).put(1, 0).endFrame(), -1, 0);
        // Four parts of one number each, and the first of them has nothing but its K.
        Reading.good("order 2", one(4).subframe(9).put(8, 3).put(2, 0).put(4, 2).put(4, 7).put(4, 0).row(2).put(4, 1).row(0).put(1, 1)
                .put(4, 15).put(5, 2).put(2, 1).endFrame(), 3, 4, 3, 4);
        Bits b = new Bits().head(1, 8, 16, 8000, 16).frame(0, 0, 16).subframe(8).put(2, 0).put(4, 4);
        int[] due = new int[16];
        for (int i = 0; i < 16; i++) {
            b.put(4, 0).row(2 * i);
            due[i] = i;
        }
        Reading.good("order 4", b.endFrame(), due);
    }

    private static Bits wordsOf(int... kinds) {
        Bits b = new Bits().put(32, 0x664C6143L).put(1, kinds.length == 0 ? 1 : 0).put(7, 0).put(24, 34).settings(1, 8, 16, 8000, 1);
        for (int i = 0; i < kinds.length; i++) {
            b.put(1, i == kinds.length - 1 ? 1 : 0).put(7, kinds[i]).put(24, i);
            for (int j = 0; j < i; j++) {
                b.put(8, 255);
            }
        }
        return b;
    }

    private static void otherWords() {
        Reading.good("other words", wordsOf(1, 126, 4, 4).frame(0, 0, 1).subframe(0).put(8, 5).endFrame(), 5);
        Reading.bad("kind 0 once more", wordsOf(1, 0).frame(0, 0, 1).subframe(0).put(8, 5).endFrame(), 2, 336 + 32 + 1);
        Reading.bad("kind 127", wordsOf(127).frame(0, 0, 1).subframe(0).put(8, 5).endFrame(), 2, 337);
        Bits b = wordsOf(3, 5, 6);
        Reading.bad("other words end in their bytes", b.copy().cut(b.bytes() - 1), 1, 336 + 32 + 40 + 32);
        Reading.bad("other words end ahead of their bytes", b.copy().cut(b.bytes() - 2), 1, 336 + 32 + 40 + 32);
        Reading.bad("other words end in their length", b.copy().cut(b.bytes() - 3), 1, 336 + 32 + 40 + 8);
        Reading.bad("other words are missing", wordsOf(3).cut(42), 1, 336);
        Reading.bad("other words say too much", wordsOf(3).set(344, 24, 0xFFFFFF), 1, 368);
        Reading.bad("the frame is missing", b, 1, b.length());
    }

    private static void wrongHead() {
        Bits b = one(1).subframe(0).put(8, 5).endFrame();
        int[][] changes = {
            {0, 32, 0x664C6142, 2, 0}, {33, 7, 1, 2, 33}, {33, 7, 127, 2, 33}, {40, 24, 33, 2, 40}, {40, 24, 35, 2, 40},
            {64, 16, 15, 2, 64}, {64, 16, 257, 2, 64}, {64, 16, 17, 2, 80}, {80, 16, 17, 2, 80}, {80, 16, 0, 2, 80},
            {144, 20, 0, 2, 144}, {144, 20, 655351, 2, 144}, {144, 20, 0xFFFFF, 2, 144},
            {167, 5, 2, 2, 167}, {167, 5, 0, 2, 167}, {167, 5, 24, 2, 167}, {167, 5, 31, 2, 167},
            {172, 36, 4097, 4, 172}, {172, 4, 15, 4, 172}, {172, 36, 2, 4, 376}, {172, 36, 4096, 4, 376},
            {164, 3, 1, 2, 360}, {172, 36, 0, 2, 336}};
        for (int[] c : changes) {
            Reading.bad("head at " + c[0] + ": " + c[2], b.copy().set(c[0], c[1], c[2]), c[3], c[4]);
        }
        for (int channels = 2; channels <= 8; channels++) {
            Bits many = b.copy().set(164, 3, channels - 1);
            Reading.bad("moments times " + channels, many.copy().set(172, 36, 4096 / channels + 1), 4, 172);
            Reading.bad("just so many moments", many.copy().set(172, 36, 4096 / channels), 2, 360);
        }
        Reading.bad("too many moments, and then the end", b.copy().set(172, 36, 4097).cut(26), 4, 172);
        Reading.good("anything in the 24 and 128 bits", b.copy().set(96, 24, -1).set(120, 24, -1).set(208, 64, -1).set(272, 64, -1), 5);
        Reading.good("the greatest RATE", b.copy().set(144, 20, 655350), 5);
        Reading.good("the least RATE", b.copy().set(144, 20, 1), 5);
        Reading.good("the greatest BLOCK", b.copy().set(64, 16, 256).set(80, 16, 256), 5);
    }

    private static void settingsOfAStream() {
        SoundPacker x = new SoundPacker();
        new Bits().head(7, 23, 255, 655350, 0).feedTo(x);
        Check.due("read()", x.read(), 0);
        Check.due("CHANNELS", x.count(1), 7);
        Check.due("BITS", x.count(2), 23);
        Check.due("BLOCK", x.count(3), 255);
        Check.due("RATE", x.count(4), 655350);
    }

    private static void wrongFrameHead() {
        Bits b = one(1).subframe(0).put(8, 5).endFrame();
        int[][] changes = {
            {336, 14, 0x3FFF, 2, 336}, {350, 2, 1, 2, 350}, {350, 2, 2, 2, 350}, {352, 4, 7, 2, 352}, {356, 4, 9, 2, 356},
            {360, 4, 1, 2, 360}, {360, 4, 8, 2, 360}, {360, 4, 10, 2, 360}, {364, 4, 1, 2, 364},
            {368, 8, 1, 4, 368}, {368, 8, 127, 4, 368}, {368, 8, 128, 2, 368}, {368, 8, 191, 2, 368}, {368, 8, 192, 4, 368},
            {368, 8, 223, 4, 368}, {368, 8, 224, 2, 368}, {368, 8, 255, 2, 368}, {376, 8, 1, 4, 376}, {376, 8, 255, 4, 376},
            {384, 8, 0, 3, 384}};
        for (int[] c : changes) {
            Reading.bad("frame at " + c[0] + ": " + c[2], b.copy().set(c[0], c[1], c[2]), c[3], c[4]);
        }
        for (int a = 0; a < 16; a++) {
            if (a != 1 && (a < 8 || a > 10)) {
                Reading.bad("assignment " + a, pair(a, 0, 8, 0, 8), 2, 360);
            }
        }
    }

    /** 130 frames of one number each but for the first ones' sixteen. */
    private static void wrongFrameNumber() {
        Bits b = new Bits().head(1, 4, 16, 8000, 129 * 16 + 1);
        int at = 0;
        for (int f = 0; f < 130; f++) {
            at = b.length() + 32;
            b.frame(0, f, f < 129 ? 16 : 1).subframe(0).put(4, 1).endFrame();
        }
        SoundPacker x = new SoundPacker();
        b.feedTo(x);
        Check.due("130 frames", x.read(), 129 * 16 + 1);
        int[][] changes = {{0, 193, 4, 0}, {0, 195, 4, 0}, {0, 127, 4, 0}, {0, 224, 2, 0}, {0, 150, 2, 0},
            {8, 128, 4, 8}, {8, 130, 4, 8}, {8, 191, 4, 8}, {8, 192, 2, 8}, {8, 127, 2, 8}, {8, 1, 2, 8}, {16, 15, 4, 16}};
        for (int[] c : changes) {
            Reading.bad("number " + c[1], b.copy().set(at + c[0], 8, c[1]), c[2], at + c[3]);
        }
    }

    private static void wrongSubframe() {
        Reading.bad("the first bit", one(1).put(1, 1).put(6, 0).put(1, 0).put(8, 5).endFrame(), 2, SUBFRAME);
        for (int t = 0; t < 64; t++) {
            int o = t > 31 ? t - 31 : t >= 8 && t <= 12 ? t - 8 : t < 2 ? 0 : -1;
            if (o < 0 || o > 3) {
                Reading.bad("type " + t, one(3).subframe(t).put(64, 0).endFrame(), 2, SUBFRAME + 1);
            }
        }
        Reading.bad("eight of eight bits wasted", one(1).subframe(0, 8).put(8, 0).endFrame(), 2, SUBFRAME + 8);
        Reading.good("seven of eight", one(1).subframe(0, 7).put(1, 1).endFrame(), -128);
        Reading.bad("far too many", one(1).subframe(0, 71).endFrame(), 2, SUBFRAME + 8);
        Reading.bad("wasted without an end", one(1).put(1, 0).put(6, 0).put(1, 1).put(32, 0), 1, SUBFRAME + 8);
        Bits padded = one(1).subframe(8).put(6, 0).put(4, 0).row(4);
        Reading.bad("bits up to a whole byte", padded.copy().put(1, 1).put(16, 0), 2, padded.length());
        Bits seven = one(1).subframe(8).put(6, 0).put(4, 0).row(6);
        Reading.bad("the last of seven", seven.copy().put(7, 1).put(16, 0), 2, seven.length());
    }

    private static Bits linear(int precision, int shift) {
        Bits b = one(2).subframe(32).put(8, 4).put(4, precision - 1).put(5, shift);
        return b.put(precision, 0).put(6, 0).put(4, 0).row(0).endFrame();
    }

    private static void wrongLinear() {
        Reading.good("P 15, shift 15", linear(15, 15), 4, 0);
        Reading.bad("P 16", linear(16, 0), 2, SUBFRAME + 16);
        Reading.bad("shift 16", linear(15, 16), 2, SUBFRAME + 20);
        Reading.bad("shift 31", linear(1, 31), 2, SUBFRAME + 20);
    }

    private static void wrongResiduals() {
        Reading.bad("2: 2", one(2).subframe(8).put(2, 2).put(64, -1).put(64, -1), 2, SUBFRAME + 8);
        Reading.bad("2: 3", one(2).subframe(8).put(2, 3).put(64, -1).put(64, -1), 2, SUBFRAME + 8);
        Reading.bad("2^q doesn't go into n", one(6).subframe(8).put(2, 0).put(4, 2).put(64, -1), 2, SUBFRAME + 10);
        Reading.bad("2^q is above n", one(6).subframe(8).put(2, 0).put(4, 15).put(64, -1), 2, SUBFRAME + 10);
        Reading.bad("a part is shorter than the first ones", one(4).subframe(10).put(16, 0).put(2, 0).put(4, 2).put(64, -1), 2, SUBFRAME + 26);
        Reading.good("a part is just as long", one(4).subframe(10).put(16, 0).put(2, 0).put(4, 1).put(4, 0).put(4, 0).row(0).row(0).endFrame(), 0, 0, 0, 0);
    }

    private static void numbersTooFar() {
        int at = SUBFRAME + 8 + 6 + 4;
        Reading.good("127", one(1).subframe(8).put(6, 0).put(4, 7).row(1).put(7, 126).endFrame(), 127);
        Reading.good("-128", one(1).subframe(8).put(6, 0).put(4, 7).row(1).put(7, 127).endFrame(), -128);
        Reading.bad("128", one(1).subframe(8).put(6, 0).put(4, 7).row(2).put(7, 0).endFrame(), 2, at);
        Reading.bad("-129", one(1).subframe(8).put(6, 0).put(4, 7).row(2).put(7, 1).endFrame(), 2, at);
        Reading.bad("the second", one(2).subframe(8).put(6, 0).put(4, 7).row(0).put(7, 0).row(2).put(7, 1).endFrame(), 2, at + 8);
        Reading.bad("by B bits", one(2).subframe(8).put(6, 0).put(4, 15).put(5, 9).put(9, 0).put(9, 128).endFrame(), 2, at + 5 + 9);
        Reading.bad("by 31 bits", one(1).subframe(8).put(6, 0).put(4, 15).put(5, 31).put(31, 1 << 30).endFrame(), 2, at + 5);
        Reading.bad("by B = 0", one(3).subframe(10).put(8, 0).put(8, 100).put(6, 0).put(4, 15).put(5, 0).endFrame(), 2, at + 16 + 5);
        Reading.bad("by B = 0 at the very end", one(3).subframe(10).put(8, 0).put(8, 100).put(6, 0).put(4, 15).put(5, 0).put(1, 0), 2, at + 16 + 5);
        Reading.bad("with wasted bits", one(1).subframe(8, 4).put(6, 0).put(4, 0).row(16).endFrame(), 2, at + 4);
        Reading.good("just not", one(1).subframe(8, 4).put(6, 0).put(4, 0).row(15).endFrame(), -128);
        Reading.bad("K 30 and a long row", one(1).subframe(8).put(2, 1).put(4, 0).put(5, 30).row(900).put(30, 0).endFrame(), 2, at + 1);
        Reading.bad("u ends in its second item", one(1).subframe(8).put(6, 0).put(4, 14).row(900).put(5, 0), 1, at + 901);
        Reading.bad("u ends in its first item", one(1).subframe(8).put(6, 0).put(4, 14).put(62, 0), 1, at);
    }

    private static void wrongSums() {
        Bits b = one(1).subframe(0).put(8, 5).endFrame();
        for (int i = 0; i < 8; i++) {
            Reading.bad("first sum, bit " + i, b.copy().flip(384 + i), 3, 384);
        }
        for (int i = 0; i < 16; i++) {
            Reading.bad("second sum, bit " + i, b.copy().flip(b.length() - 16 + i), 3, b.length() - 16);
        }
        Reading.bad("a number that was changed", b.copy().flip(SUBFRAME + 9), 3, b.length() - 16);
        Reading.bad("the second sum lacks a byte", b.copy().cut(b.bytes() - 1), 1, b.length() - 16);
        Reading.bad("the second sum is missing", b.copy().cut(b.bytes() - 2), 1, b.length() - 16);
    }

    private static void wrongChannels() {
        Reading.good("8", pair(8, 127, 8, 255, 9), 127, -128);
        Reading.good("9", pair(9, -255, 9, 127, 8), -128, 127);
        Reading.good("10", pair(10, -1, 8, -255, 9), -128, 127);
        Reading.good("10, both odd", pair(10, -1, 8, 255, 9), 127, -128);
        Reading.good("10, -3 and -4", pair(10, -4, 8, 1, 9), -3, -4);
        Bits[] wrong = {pair(8, 127, 8, 256, 9), pair(8, 127, 8, -1, 9), pair(8, -128, 8, 1, 9), pair(9, 1, 9, 127, 8),
            pair(9, -1, 9, -128, 8), pair(10, 127, 8, 2, 9), pair(10, 127, 8, -2, 9), pair(10, -128, 8, 3, 9),
            // -256 halves to -128 and 128.
            pair(10, 0, 8, -256, 9)};
        for (int i = 0; i < wrong.length; i++) {
            Reading.bad("channel case " + i, wrong[i].copy(), 4, wrong[i].length() - 16);
            Reading.bad("channel case " + i + " and its sum", wrong[i].copy().flip(wrong[i].length() - 1), 3, wrong[i].length() - 16);
        }
    }

    /** Cut behind each byte: the fault is 1 at the item that the cut goes through or stands ahead of. */
    private static void ends() {
        int[] items = {0, 32, 33, 40, 64, 80, 96, 120, 144, 164, 167, 172, 208, 336, 350, 352, 356, 360, 364, 368, 376, 384,
            392, 393, 399, 400, 408, 416, 420, 425, 440, 455, 457, 461, 465, 472};
        Bits b = one(2).subframe(33).put(8, 1).put(8, 2).put(4, 14).put(5, 3).put(15, 9).put(15, 9)
                .put(2, 0).put(4, 0).put(4, 0).endFrame();
        for (int bytes = 0; bytes < b.bytes(); bytes++) {
            int place = 0;
            for (int item : items) {
                place = item <= 8 * bytes ? item : place;
            }
            Reading.bad("cut behind " + bytes + " bytes", b.copy().cut(bytes), 1, place);
        }
        Reading.good("not cut", b, 1, 2);
    }

    /** What an older tape held behind the end of this one is not read. */
    private static void olderTape() {
        SoundPacker x = new SoundPacker();
        Bits b = one(1).subframe(8).put(6, 0).put(4, 0);
        int row = b.length();
        b.copy().put(22, 0).put(64, -1).feedTo(x);
        Check.badArgument("read() of the older one", x::read);
        b.copy().put(22, 0).feedTo(x);
        Check.badArgument("read()", x::read);
        Check.due("fault()", x.fault(), 1);
        Check.due("place()", x.place(), row);
    }

    private static void behind() {
        Bits b = one(1).subframe(0).put(8, 5).endFrame();
        Reading.bad("a byte behind the last frame", b.copy().put(8, 0), 2, b.length());
        Reading.bad("a frame behind the last frame", b.copy().frame(0, 1, 1).subframe(0).put(8, 5).endFrame(), 2, b.length());
        Reading.bad("a byte behind no frames", new Bits().head(1, 8, 16, 8000, 0).put(8, 0), 2, 336);
    }

    private static void stateStays() {
        SoundPacker x = new SoundPacker();
        x.shape(2, 12, 32, 11025);
        x.predict(3);
        x.coefficient(7);
        x.push(-2048);
        x.push(2047);
        int made = x.make();
        Bits b = one(1).subframe(0).put(8, 5).endFrame();
        Consumer<String> unchanged = name -> {
            int[] due = {2, 2, 12, 32, 11025, made, 1, 0, 1};
            for (int what = 0; what < due.length; what++) {
                Check.due(name + ": count(" + what + ")", x.count(what), due[what]);
            }
            Check.due(name + ": sample(0)", x.sample(0), -2048);
            Check.due(name + ": sample(1)", x.sample(1), 2047);
        };
        b.copy().flip(b.length() - 1).feedTo(x);
        Check.badArgument("read()", x::read);
        unchanged.accept("behind a wrong sum");
        Check.due("fault()", x.fault(), 3);
        Check.due("fault() once more", x.fault(), 3);
        Check.due("place()", x.place(), b.length() - 16);
        x.push(0);
        Check.due("fault() stays behind other calls", x.fault(), 3);
        b.feedTo(x);
        Check.due("fault() stays behind feed", x.fault(), 3);
        Check.due("read()", x.read(), 1);
        Check.due("fault()", x.fault(), 0);
        Check.due("place()", x.place(), -1);
        Check.due("sample(0)", x.sample(0), 5);
        Check.due("CHANNELS", x.count(1), 1);
        Check.due("BITS", x.count(2), 8);
        Check.due("BLOCK", x.count(3), 16);
        Check.due("RATE", x.count(4), 8000);
        Check.due("the predictor stays", x.count(8), 1);
        x.push(127);
        Check.badArgument("BITS hold for push", () -> x.push(128));
        Check.due("samples go on", x.count(0), 2);
        Check.badArgument("read() of nothing", x::read);
        Check.due("fault()", x.fault(), 1);
        Check.due("place()", x.place(), 0);
        Check.due("samples stay", x.count(0), 2);
    }
}
