import java.math.BigInteger;

/** READING once more, over a text of 0 and 1. */
final class ModelReader {
    private static final class Stop extends RuntimeException {
        private static final long serialVersionUID = 1L;
    }

    private final String bits;
    private int at = 0;
    private int began = 0;
    int fault = 0;
    int place = -1;
    int channels;
    int width;
    int block;
    int rate;
    int[] samples = {};

    ModelReader(String bits) {
        this.bits = bits;
        try {
            stream();
        } catch (Stop s) {
            samples = null;
        }
    }

    private void stop(int kind, int where) {
        fault = kind;
        place = where;
        throw new Stop();
    }

    private BigInteger item(int n) {
        began = at;
        if (at + n > bits.length()) {
            stop(1, at);
        }
        String s = bits.substring(at, at + n);
        at += n;
        return n == 0 ? BigInteger.ZERO : new BigInteger(s, 2);
    }

    private long whole(int n) {
        return item(n).longValue();
    }

    private long below(int n) {
        BigInteger x = item(n);
        return n > 0 && x.testBit(n - 1) ? x.subtract(BigInteger.ONE.shiftLeft(n)).longValue() : x.longValue();
    }

    private void must(boolean good, int kind) {
        if (!good) {
            stop(kind, began);
        }
    }

    private int row() {
        began = at;
        int one = bits.indexOf('1', at);
        if (one < 0) {
            stop(1, at);
        }
        at = one + 1;
        return one - began;
    }

    private void stream() {
        must(whole(32) == 0x664C6143L, 2);
        boolean last = whole(1) == 1;
        must(whole(7) == 0, 2);
        must(whole(24) == 34, 2);
        block = (int) whole(16);
        must(block >= 16 && block <= 256, 2);
        must(whole(16) == block, 2);
        item(24);
        item(24);
        rate = (int) whole(20);
        must(rate >= 1 && rate <= 655350, 2);
        channels = (int) whole(3) + 1;
        width = (int) whole(5) + 1;
        must(width >= 4 && width <= 24, 2);
        long moments = whole(36);
        must(moments * channels <= 4096, 4);
        item(128);
        while (!last) {
            last = whole(1) == 1;
            long kind = whole(7);
            must(kind != 0 && kind != 127, 2);
            item((int) whole(24) * 8);
        }
        samples = new int[(int) moments * channels];
        int frames = (int) ((moments + block - 1) / block);
        for (int f = 0; f < frames; f++) {
            frame(f, (int) Math.min(block, moments - (long) f * block));
        }
        if (at < bits.length()) {
            stop(2, at);
        }
    }

    private void frame(int f, int n) {
        int from = at;
        must(whole(14) == 0x3FFE, 2);
        must(whole(2) == 0, 2);
        must(whole(4) == 6, 2);
        must(whole(4) == 0, 2);
        int a = (int) whole(4);
        must(a == channels - 1 || channels == 2 && (a == 8 || a == 9 || a == 10), 2);
        must(whole(4) == 0, 2);
        long number = whole(8);
        must(number < 128 || number >= 192 && number < 224, 2);
        must(number == (f < 128 ? f : 192 + f / 64), 4);
        if (f >= 128) {
            long rest = whole(8);
            must(rest >= 128 && rest < 192, 2);
            must(rest == 128 + f % 64, 4);
        }
        must(whole(8) == n - 1, 4);
        long sum = Bits.sumOf(bits.substring(from, at), 8, 7);
        must(whole(8) == sum, 3);
        long[][] rows = new long[channels][];
        for (int c = 0; c < channels; c++) {
            rows[c] = subframe(n, width + (Model.side(a, c) ? 1 : 0));
        }
        must(whole((8 - at % 8) % 8) == 0, 2);
        sum = Bits.sumOf(bits.substring(from, at), 16, 0x8005);
        must(whole(16) == sum, 3);
        for (int i = 0; i < n; i++) {
            long[] moment = new long[channels];
            for (int c = 0; c < channels; c++) {
                moment[c] = rows[c][i];
            }
            parted(moment, a);
            for (int c = 0; c < channels; c++) {
                must(isOf(moment[c], width), 4);
                samples[(f * block + i) * channels + c] = (int) moment[c];
            }
        }
    }

    private static void parted(long[] m, int assignment) {
        if (assignment == 8) {
            m[1] = m[0] - m[1];
        } else if (assignment == 9) {
            m[0] = m[0] + m[1];
        } else if (assignment == 10) {
            // l + r is even just if l - r is.
            long both = 2 * m[0] + Math.floorMod(m[1], 2L);
            long l = (both + m[1]) / 2;
            m[1] = (both - m[1]) / 2;
            m[0] = l;
        }
    }

    private static boolean isOf(long x, int b) {
        return x >= -(1L << (b - 1)) && x <= (1L << (b - 1)) - 1;
    }

    private long[] subframe(int n, int b) {
        must(whole(1) == 0, 2);
        int type = (int) whole(6);
        int o = type >= 32 ? type - 31 : type >= 8 ? type - 8 : 0;
        must(type == 0 || type == 1 || (type >= 8 && type <= 12 || type >= 32) && o <= n, 2);
        int w = 0;
        if (whole(1) == 1) {
            w = row() + 1;
            must(w <= b - 1, 2);
        }
        b -= w;
        long[] x = new long[n];
        if (type == 0) {
            java.util.Arrays.fill(x, below(b));
        } else {
            for (int i = 0; i < (type == 1 ? n : o); i++) {
                x[i] = below(b);
            }
        }
        if (type >= 8) {
            predicted(x, type, o, b);
        }
        for (int i = 0; i < n; i++) {
            x[i] *= 1L << w;
        }
        return x;
    }

    private void predicted(long[] x, int type, int o, int b) {
        long[][] fixed = {{}, {1}, {2, -1}, {3, -3, 1}, {4, -6, 4, -1}};
        long[] c;
        long shift = 0;
        if (type < 32) {
            c = fixed[o];
        } else {
            int p = (int) whole(4) + 1;
            must(p != 16, 2);
            shift = whole(5);
            must(shift < 16, 2);
            c = new long[o];
            for (int j = 0; j < o; j++) {
                c[j] = below(p);
            }
        }
        int method = (int) whole(2);
        must(method < 2, 2);
        int parts = 1 << whole(4);
        must(x.length % parts == 0 && x.length / parts >= o, 2);
        int length = x.length / parts;
        for (int p = 0; p < parts; p++) {
            long k = whole(method == 0 ? 4 : 5);
            long plain = k == (method == 0 ? 15 : 31) ? whole(5) : -1;
            for (int i = p == 0 ? o : p * length; i < (p + 1) * length; i++) {
                int from = at;
                long e;
                if (plain >= 0) {
                    e = below((int) plain);
                } else {
                    long zeros = row();
                    long u = zeros * (1L << k) + whole((int) k);
                    e = u % 2 == 0 ? u / 2 : -(u + 1) / 2;
                }
                long sum = 0;
                for (int j = 0; j < o; j++) {
                    sum += c[j] * x[i - 1 - j];
                }
                x[i] = Math.floorDiv(sum, 1L << shift) + e;
                if (!isOf(x[i], b)) {
                    stop(2, from);
                }
            }
        }
    }
}
