/** Promises 9 and 10: feed and again. */
public final class TapeTest {
    public static void main(String[] args) {
        wrongFeeds();
        bytesInOrder();
        again();
        Check.end();
    }

    private static void wrongFeeds() {
        SoundPacker x = new SoundPacker();
        for (int n : new int[] {0, -1, 9, 64, Integer.MIN_VALUE, Integer.MAX_VALUE}) {
            Check.holds("feed of " + n + " bytes is refused", !x.feed(-1L, n));
            Check.due("the tape", x.count(7), 0);
        }
        int all = 0;
        for (int n = 1; n <= 8; n++) {
            Check.holds("feed of " + n + " bytes", x.feed(-1L, n));
            all += n;
            Check.due("the tape", x.count(7), all);
        }
    }

    /** The same stream in pieces of each size, with other bits behind the bytes that count. */
    private static void bytesInOrder() {
        Bits b = new Bits().head(2, 8, 16, 8000, 1).frame(1, 0, 1)
                .put(8, 0).put(8, -100).put(8, 0).put(8, 100).endFrame();
        for (int size = 1; size <= 8; size++) {
            SoundPacker x = new SoundPacker();
            for (int i = 0; i < b.bytes(); i += size) {
                int n = Math.min(size, b.bytes() - i);
                long w = -1L;
                for (int j = 0; j < n; j++) {
                    w = w & ~(255L << (56 - 8 * j)) | (long) b.octet(i + j) << (56 - 8 * j);
                }
                Check.holds("feed", x.feed(w, n));
            }
            Check.due("the tape", x.count(7), b.bytes());
            Check.due("read()", x.read(), 2);
            Check.due("sample(0)", x.sample(0), -100);
            Check.due("sample(1)", x.sample(1), 100);
        }
    }

    private static void again() {
        SoundPacker x = new SoundPacker();
        x.feed(0, 3);
        Check.due("again() without a stream", x.again(), 0);
        Check.due("the tape", x.count(7), 0);
        x.push(3);
        int made = x.make();
        x.feed(0, 5);
        Check.due("again()", x.again(), made);
        Check.due("the tape", x.count(7), made);
        Check.due("again() once more", x.again(), made);
        x.push(4);
        Check.due("again() tells what was made, not what was pushed", x.again(), made);
        Check.due("read()", x.read(), 1);
        Check.due("the tape behind read()", x.count(7), 0);
        Check.due("what was made stays behind read()", x.count(5), made);
        Check.due("again() behind read()", x.again(), made);
        x.feed(0, 1);
        Check.due("the tape", x.count(7), made + 1);
        x.shape(1, 8, 16, 1);
        Check.due("the tape stays behind shape", x.count(7), made + 1);
        x.make();
        Check.due("the tape stays behind make", x.count(7), made + 1);
    }
}
