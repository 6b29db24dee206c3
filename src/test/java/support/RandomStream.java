import java.util.ArrayList;
import java.util.List;
import java.util.Random;

/** A stream that uses all the ways that may be read, many of which are never made. */
final class RandomStream {
    private static final int[][] FIXED = {{}, {1}, {2, -1}, {3, -3, 1}, {4, -6, 4, -1}};

    private final Random random;
    final Bits bits = new Bits();
    /** Of each frame: where it begins, where its first sum stands, where its second does. */
    final List<int[]> frames = new ArrayList<>();

    RandomStream(long seed) {
        random = new Random(seed);
        int channels = random.nextInt(3) == 0 ? 2 : 1 + random.nextInt(8);
        int width = 4 + random.nextInt(21);
        int block = random.nextBoolean() ? 16 << random.nextInt(3) : 16 + random.nextInt(60);
        int moments = random.nextInt(120 / channels + 20);
        boolean words = random.nextInt(4) == 0;
        bits.put(32, 0x664C6143L).put(1, words ? 0 : 1).put(7, 0).put(24, 34);
        bits.put(16, block).put(16, block).put(24, random.nextInt(1 << 24)).put(24, random.nextInt(1 << 24));
        bits.put(20, 1 + random.nextInt(655350)).put(3, channels - 1).put(5, width - 1).put(36, moments);
        bits.put(64, random.nextLong()).put(64, random.nextLong());
        if (words) {
            otherWords();
        }
        for (int f = 0; f * block < moments; f++) {
            frame(f, Math.min(block, moments - f * block), channels, width);
        }
    }

    private void otherWords() {
        int many = 1 + random.nextInt(3);
        for (int i = 1; i <= many; i++) {
            int length = random.nextInt(12);
            bits.put(1, i == many ? 1 : 0).put(7, 1 + random.nextInt(126)).put(24, length);
            for (int j = 0; j < length; j++) {
                bits.put(8, random.nextInt(256));
            }
        }
    }

    private void frame(int f, int n, int channels, int width) {
        int assignment = channels == 2 && random.nextInt(4) > 0 ? 8 + random.nextInt(3) : channels - 1;
        int from = bits.length();
        bits.frame(assignment, f, n);
        int firstSum = bits.length() - 8;
        int[][] rows = new int[channels][];
        for (int c = 0; c < channels; c++) {
            rows[c] = sound(n, width);
        }
        // Rows that belong to no two channels of so many bits, now and then.
        boolean wild = random.nextInt(8) == 0;
        int[][] told = wild ? rows : Model.assigned(rows, assignment);
        for (int c = 0; c < channels; c++) {
            subframe(told[c], width + (Model.side(assignment, c) ? 1 : 0));
        }
        bits.endFrame();
        frames.add(new int[] {from, firstSum, bits.length() - 16});
    }

    private int[] sound(int n, int width) {
        int limit = 1 << (width - 1);
        int spread = 1 << random.nextInt(width);
        int kind = random.nextInt(5);
        int drop = random.nextInt(3) == 0 ? random.nextInt(width) : 0;
        double pace = random.nextDouble();
        int[] x = new int[n];
        for (int i = 0; i < n; i++) {
            int v;
            if (kind == 0) {
                v = i == 0 ? random.nextInt(2 * limit) - limit : x[0];
            } else if (kind == 1) {
                v = random.nextInt(2 * spread) - spread;
            } else if (kind == 2) {
                v = (int) (spread * Math.sin(i * pace));
            } else if (kind == 3) {
                v = random.nextInt(2 * limit) - limit;
            } else {
                v = random.nextInt(6) == 0 ? spread : 0;
            }
            x[i] = Math.max(-limit, Math.min(limit - 1, v)) >> drop << drop;
        }
        return x;
    }

    private void subframe(int[] numbers, int width) {
        int n = numbers.length;
        int most = 0;
        int all = 0;
        boolean same = true;
        for (int v : numbers) {
            all |= v;
            same &= v == numbers[0];
        }
        most = Math.min(width - 1, all == 0 ? width - 1 : Integer.numberOfTrailingZeros(all));
        int wasted = most > 0 && random.nextInt(3) > 0 ? 1 + random.nextInt(most) : 0;
        int b = width - wasted;
        int[] x = new int[n];
        for (int i = 0; i < n; i++) {
            x[i] = numbers[i] >> wasted;
        }
        int kind = random.nextInt(6);
        int o = kind == 2 || kind == 3 ? random.nextInt(5) : 1 + random.nextInt(32);
        o = Math.min(o, n);
        int type = same && kind < 3 ? 0 : kind < 2 ? 1 : kind < 4 ? 8 + o : 31 + o;
        bits.put(1, 0).put(6, type).put(1, wasted > 0 ? 1 : 0);
        if (wasted > 0) {
            bits.row(wasted - 1);
        }
        if (type == 0) {
            bits.put(b, x[0]);
            return;
        }
        for (int i = 0; i < (type == 1 ? n : o); i++) {
            bits.put(b, x[i]);
        }
        if (type >= 8) {
            residuals(x, type < 32 ? foretoldByFixed(x, o) : foretoldByLinear(x, o), o);
        }
    }

    private static long[] foretoldByFixed(int[] x, int o) {
        long[] e = new long[x.length];
        for (int i = o; i < x.length; i++) {
            e[i] = x[i] - Model.foretold(x, i, FIXED[o], 0);
        }
        return e;
    }

    private long[] foretoldByLinear(int[] x, int o) {
        int precision = 1 + random.nextInt(15);
        int shift = random.nextInt(16);
        int[] c = new int[o];
        for (int j = 0; j < o; j++) {
            c[j] = random.nextInt(1 << precision) - (1 << (precision - 1));
        }
        long[] e = new long[x.length];
        for (int i = o; i < x.length; i++) {
            e[i] = x[i] - Model.foretold(x, i, c, shift);
            if (Math.abs(e[i]) >= 1L << 29) {
                c = new int[o];
                i = o - 1;
            }
        }
        bits.put(4, precision - 1).put(5, shift);
        for (int v : c) {
            bits.put(precision, v);
        }
        return e;
    }

    private void residuals(int[] x, long[] e, int o) {
        int q = random.nextInt(6);
        while (x.length % (1 << q) != 0 || x.length >> q < o) {
            q--;
        }
        int method = random.nextInt(2);
        bits.put(2, method).put(4, q);
        int length = x.length >> q;
        for (int p = 0; p < 1 << q; p++) {
            part(e, p == 0 ? o : p * length, (p + 1) * length, method);
        }
    }

    private void part(long[] e, int from, int to, int method) {
        long most = 0;
        for (int i = from; i < to; i++) {
            most = Math.max(most, e[i] >= 0 ? 2 * e[i] : -2 * e[i] - 1);
        }
        int needed = 64 - Long.numberOfLeadingZeros(most);
        int k = Math.max(0, needed - random.nextInt(5));
        if (random.nextInt(4) == 0 || k > (method == 0 ? 14 : 30)) {
            int plain = Math.min(31, needed + (random.nextInt(3) == 0 ? random.nextInt(3) : 0));
            bits.put(4 + method, -1).put(5, plain);
            for (int i = from; i < to; i++) {
                bits.put(plain, e[i]);
            }
            return;
        }
        bits.put(4 + method, k);
        for (int i = from; i < to; i++) {
            long u = e[i] >= 0 ? 2 * e[i] : -2 * e[i] - 1;
            bits.row(u >> k).put(k, u);
        }
    }

    /** A copy that is harmed in way k, 0 to 11: cut, longer, or bits turned, most of them with the sums made right. */
    Bits harmed(Random random, int k) {
        Bits b = bits.copy();
        if (k == 0) {
            return b.cut(random.nextInt(b.bytes()));
        }
        if (k == 1) {
            return b.put(8, random.nextInt(256));
        }
        if (k == 2 || frames.isEmpty()) {
            return b.flip(random.nextInt(Math.min(b.length(), 400)));
        }
        if (k == 3) {
            return b.flip(random.nextInt(b.length()));
        }
        int[] frame = frames.get(random.nextInt(frames.size()));
        for (int i = 0; i < 1 + k / 5; i++) {
            int span = k == 4 ? 64 : frame[2] - frame[0];
            b.flip(frame[0] + random.nextInt(Math.min(span, frame[2] - frame[0])));
        }
        mendSums(b, frames);
        return k == 11 ? b.cut(b.bytes() - random.nextInt(4)) : b;
    }

    /** Makes the sums of all frames right again, behind a change that moved nothing. */
    static void mendSums(Bits changed, List<int[]> frames) {
        for (int[] f : frames) {
            String text = changed.text();
            changed.set(f[1], 8, Bits.sumOf(text.substring(f[0], f[1]), 8, 7));
            text = changed.text();
            changed.set(f[2], 16, Bits.sumOf(text.substring(f[0], f[2]), 16, 0x8005));
        }
    }
}
