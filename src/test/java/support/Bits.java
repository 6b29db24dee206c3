import java.util.ArrayList;
import java.util.List;

/** A stream written bit by bit, as a text of 0 and 1; where each item begins is kept. */
final class Bits {
    private final StringBuilder text = new StringBuilder();
    private final List<Integer> items = new ArrayList<>();
    private int frameFrom = 0;

    static Bits of(String zerosAndOnes) {
        Bits b = new Bits();
        b.text.append(zerosAndOnes);
        return b;
    }

    /** One item, none if it has no bits. */
    Bits put(int width, long x) {
        beginItem(width);
        for (int i = width - 1; i >= 0; i--) {
            text.append((x >> i & 1) == 1 ? '1' : '0');
        }
        return this;
    }

    Bits add(String zerosAndOnes) {
        text.append(zerosAndOnes);
        return this;
    }

    Bits row(long zeros) {
        return oneItem("0".repeat((int) zeros) + "1");
    }

    /** All of it as one item, however long it is. */
    Bits oneItem(String zerosAndOnes) {
        beginItem(zerosAndOnes.length());
        return add(zerosAndOnes);
    }

    private void beginItem(int width) {
        if (width > 0) {
            items.add(text.length());
        }
    }

    /** Where the item begins that the bit stands in. */
    int itemAt(int bit) {
        int found = 0;
        for (int begin : items) {
            found = begin <= bit ? begin : found;
        }
        return found;
    }

    /** What a stream begins with, the first words being the last ones. */
    Bits head(int channels, int bits, int block, int rate, long moments) {
        return put(32, 0x664C6143L).put(1, 1).put(7, 0).put(24, 34)
                .settings(channels, bits, block, rate, moments);
    }

    Bits settings(int channels, int bits, int block, int rate, long moments) {
        return put(16, block).put(16, block).put(24, 0).put(24, 0).put(20, rate).put(3, channels - 1)
                .put(5, bits - 1).put(36, moments).oneItem("0".repeat(128));
    }

    Bits frame(int assignment, int number, int moments) {
        frameFrom = text.length();
        put(14, 0x3FFE).put(2, 0).put(4, 6).put(4, 0).put(4, assignment).put(4, 0);
        if (number < 128) {
            put(8, number);
        } else {
            put(8, 192 + number / 64).put(8, 128 + number % 64);
        }
        return put(8, moments - 1).put(8, sum(8, 7));
    }

    /** All frames of so many moments, in each of which channel c is the one number v[c]. */
    Bits frames(int bits, int block, int moments, int... v) {
        for (int f = 0; f * block < moments; f++) {
            frame(v.length - 1, f, Math.min(block, moments - f * block));
            for (int number : v) {
                subframe(0).put(bits, number);
            }
            endFrame();
        }
        return this;
    }

    /** What a subframe begins with, without wasted bits. */
    Bits subframe(int type) {
        return put(1, 0).put(6, type).put(1, 0);
    }

    Bits subframe(int type, int wasted) {
        return put(1, 0).put(6, type).put(1, 1).row(wasted - 1);
    }

    Bits endFrame() {
        return put(-text.length() & 7, 0).put(16, sum(16, 0x8005));
    }

    /** The sum over what stands from the frame's first bit on, by the document's own words. */
    private long sum(int width, int putTo) {
        return sumOf(text.substring(frameFrom), width, putTo);
    }

    static long sumOf(String bits, int width, int putTo) {
        long sum = 0;
        for (int i = 0; i < bits.length(); i++) {
            long goes = sum >> (width - 1) & 1;
            sum = sum << 1 & (1L << width) - 1;
            if (goes != bits.charAt(i) - '0') {
                sum ^= putTo;
            }
        }
        return sum;
    }

    int length() {
        return text.length();
    }

    String text() {
        return text.toString();
    }

    int bytes() {
        return text.length() / 8;
    }

    int octet(int i) {
        return Integer.parseInt(text.substring(8 * i, 8 * i + 8), 2);
    }

    Bits flip(int bit) {
        text.setCharAt(bit, text.charAt(bit) == '0' ? '1' : '0');
        return this;
    }

    Bits set(int at, int width, long x) {
        text.replace(at, at + width, new Bits().put(width, x).text());
        return this;
    }

    Bits copy() {
        Bits b = of(text());
        b.items.addAll(items);
        b.frameFrom = frameFrom;
        return b;
    }

    Bits cut(int bytes) {
        text.setLength(8 * bytes);
        return this;
    }

    /** The eight bytes from there on, or as many as there are, as feed() takes them. */
    long word(int from) {
        long w = 0;
        for (int j = 0; j < Math.min(8, bytes() - from); j++) {
            w |= (long) octet(from + j) << (56 - 8 * j);
        }
        return w;
    }

    /** Puts the stream behind the tape of x. */
    boolean feedTo(SoundPacker x) {
        boolean all = true;
        for (int i = 0; i < bytes(); i += 8) {
            all &= x.feed(word(i), Math.min(8, bytes() - i));
        }
        return all;
    }

    static Bits madeBy(SoundPacker x) {
        Bits b = new Bits();
        for (int i = 0; i < x.count(5); i++) {
            b.put(8, x.octet(i));
        }
        return b;
    }
}
