/** Promises 2 to 5, 14 and 15: shape, predict, coefficient, push, sample, count. */
public final class SettingsTest {
    private static final int LEAST = Integer.MIN_VALUE;
    private static final int MOST = Integer.MAX_VALUE;

    public static void main(String[] args) {
        shapes();
        wrongShapes();
        predictor();
        samples();
        counts();
        Check.end();
    }

    private static void settingsAre(String name, SoundPacker x, int channels, int bits, int block, int rate) {
        Check.due(name + ": CHANNELS", x.count(1), channels);
        Check.due(name + ": BITS", x.count(2), bits);
        Check.due(name + ": BLOCK", x.count(3), block);
        Check.due(name + ": RATE", x.count(4), rate);
    }

    private static void shapes() {
        SoundPacker x = new SoundPacker();
        int[][] good = {{1, 4, 16, 1}, {8, 24, 256, 655350}, {2, 16, 17, 44100}, {3, 5, 255, 2}};
        for (int[] s : good) {
            x.push(1);
            x.shape(s[0], s[1], s[2], s[3]);
            settingsAre("shape", x, s[0], s[1], s[2], s[3]);
            Check.due("samples behind shape", x.count(0), 0);
            Check.badArgument("sample(0) behind shape", () -> x.sample(0));
        }
        x.predict(3);
        x.coefficient(5);
        x.shape(1, 8, 16, 8000);
        Check.due("the predictor stays behind shape", x.count(8), 1);
        x.push(1);
        int made = x.make();
        x.shape(1, 8, 16, 8000);
        Check.due("what was made stays behind shape", x.count(5), made);
        Check.due("its frames too", x.way(0, 0, 0), 0);
    }

    private static void wrongShapes() {
        SoundPacker x = new SoundPacker();
        x.push(77);
        int[][] bad = {
            {0, 16, 64, 44100}, {9, 16, 64, 44100}, {-1, 16, 64, 44100}, {LEAST, 16, 64, 44100}, {MOST, 16, 64, 44100},
            {1, 3, 64, 44100}, {1, 25, 64, 44100}, {1, 0, 64, 44100}, {1, LEAST, 64, 44100}, {1, MOST, 64, 44100},
            {1, 16, 15, 44100}, {1, 16, 257, 44100}, {1, 16, 0, 44100}, {1, 16, LEAST, 44100}, {1, 16, MOST, 44100},
            {1, 16, 64, 0}, {1, 16, 64, 655351}, {1, 16, 64, -1}, {1, 16, 64, LEAST}, {1, 16, 64, MOST}};
        for (int[] s : bad) {
            Check.badArgument("shape(" + s[0] + ", " + s[1] + ", " + s[2] + ", " + s[3] + ")", () -> x.shape(s[0], s[1], s[2], s[3]));
            settingsAre("a wrong shape", x, 1, 16, 64, 44100);
            Check.due("samples behind a wrong shape", x.count(0), 1);
        }
        Check.due("sample(0)", x.sample(0), 77);
    }

    private static void predictor() {
        SoundPacker x = new SoundPacker();
        for (int c : new int[] {16384, -16385, LEAST, MOST}) {
            Check.badArgument("coefficient(" + c + ")", () -> x.coefficient(c));
        }
        x.coefficient(16383);
        x.coefficient(-16384);
        Check.due("coefficients", x.count(8), 2);
        for (int s : new int[] {-1, 15, LEAST, MOST}) {
            Check.badArgument("predict(" + s + ")", () -> x.predict(s));
            Check.due("coefficients behind a wrong predict", x.count(8), 2);
        }
        for (int i = 2; i < 8; i++) {
            x.coefficient(i);
        }
        Check.due("coefficients", x.count(8), 8);
        Check.badState("a ninth coefficient", () -> x.coefficient(0));
        Check.badArgument("a ninth coefficient that is wrong besides", () -> x.coefficient(16384));
        Check.due("coefficients", x.count(8), 8);
        x.predict(14);
        Check.due("coefficients behind predict", x.count(8), 0);
        x.coefficient(1);
        x.predict(0);
        Check.due("coefficients behind predict", x.count(8), 0);
    }

    private static void samples() {
        for (int bits = 4; bits <= 24; bits++) {
            SoundPacker x = new SoundPacker();
            int limit = 1 << (bits - 1);
            x.shape(1, bits, 16, 1);
            Check.badArgument("push of 2^(BITS - 1)", () -> x.push(limit));
            Check.badArgument("push of -2^(BITS - 1) - 1", () -> x.push(-limit - 1));
            Check.badArgument("push of the least", () -> x.push(LEAST));
            Check.badArgument("push of the most", () -> x.push(MOST));
            Check.due("samples", x.count(0), 0);
            x.push(limit - 1);
            x.push(-limit);
            x.push(0);
            Check.due("samples", x.count(0), 3);
            Check.due("sample(0)", x.sample(0), limit - 1);
            Check.due("sample(1)", x.sample(1), -limit);
            Check.due("sample(2)", x.sample(2), 0);
            for (int i : new int[] {-1, 3, LEAST, MOST, 4095, 4096}) {
                Check.badArgument("sample(" + i + ")", () -> x.sample(i));
            }
        }
    }

    private static void counts() {
        SoundPacker x = new SoundPacker();
        x.shape(2, 9, 20, 96000);
        for (int i = 0; i < 44; i++) {
            x.push(i);
        }
        x.coefficient(1);
        x.feed(5, 7);
        int made = x.make();
        int[] due = {44, 2, 9, 20, 96000, made, 2, 7, 1};
        for (int what = 0; what < due.length; what++) {
            Check.due("count(" + what + ")", x.count(what), due[what]);
        }
        for (int what : new int[] {-1, 9, 10, LEAST, MOST}) {
            Check.due("count(" + what + ")", x.count(what), -1);
        }
    }
}
