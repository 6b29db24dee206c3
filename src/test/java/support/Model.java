import java.util.ArrayList;
import java.util.List;

/** The document once more, as plainly as can be and as slowly as it likes: texts of 0 and 1. */
final class Model {
    private Model() {
    }

    /** One subframe as it would be told. */
    record Told(String bits, int type, int wasted, int order) {
    }

    /** A stream that is made, and of each frame its assignment and its subframes. */
    record Made(String bits, List<Integer> assignments, List<Told[]> frames) {
    }

    static Made make(int[] settings, int[] samples, int[] coefficients, int shift) {
        int channels = settings[0];
        int moments = samples.length / channels;
        Bits out = new Bits().head(channels, settings[1], settings[2], settings[3], moments);
        List<Integer> assignments = new ArrayList<>();
        List<Told[]> frames = new ArrayList<>();
        for (int f = 0; f * settings[2] < moments; f++) {
            int n = Math.min(settings[2], moments - f * settings[2]);
            int[][] rows = new int[channels][n];
            for (int i = 0; i < n * channels; i++) {
                rows[i % channels][i / channels] = samples[f * settings[2] * channels + i];
            }
            int best = -1;
            Told[] bestTold = null;
            for (int a : channels == 2 ? new int[] {1, 8, 9, 10} : new int[] {channels - 1}) {
                Told[] told = tellFrame(rows, a, settings[1], coefficients, shift);
                if (bestTold == null || lengthOf(told) < lengthOf(bestTold)) {
                    best = a;
                    bestTold = told;
                }
            }
            out.frame(best, f, n);
            for (Told t : bestTold) {
                out.add(t.bits());
            }
            out.endFrame();
            assignments.add(best);
            frames.add(bestTold);
        }
        return new Made(out.text(), assignments, frames);
    }

    private static int lengthOf(Told[] told) {
        int sum = 0;
        for (Told t : told) {
            sum += t.bits().length();
        }
        return sum;
    }

    static int[][] assigned(int[][] rows, int assignment) {
        if (assignment < 8) {
            return rows;
        }
        int n = rows[0].length;
        int[] side = new int[n];
        int[] middle = new int[n];
        for (int i = 0; i < n; i++) {
            side[i] = rows[0][i] - rows[1][i];
            middle[i] = Math.floorDiv(rows[0][i] + rows[1][i], 2);
        }
        if (assignment == 8) {
            return new int[][] {rows[0], side};
        }
        return assignment == 9 ? new int[][] {side, rows[1]} : new int[][] {middle, side};
    }

    static boolean side(int assignment, int c) {
        return assignment == 9 && c == 0 || (assignment == 8 || assignment == 10) && c == 1;
    }

    private static Told[] tellFrame(int[][] rows, int assignment, int bits, int[] coefficients, int shift) {
        int[][] told = assigned(rows, assignment);
        Told[] out = new Told[told.length];
        for (int c = 0; c < told.length; c++) {
            out[c] = tell(told[c], bits + (side(assignment, c) ? 1 : 0), coefficients, shift);
        }
        return out;
    }

    private static Told tell(int[] numbers, int bits, int[] coefficients, int shift) {
        int wasted = wasted(numbers);
        int[] x = new int[numbers.length];
        for (int i = 0; i < x.length; i++) {
            x[i] = Math.floorDiv(numbers[i], 1 << wasted);
        }
        int b = bits - wasted;
        List<Told> ways = new ArrayList<>();
        boolean same = true;
        for (int v : x) {
            same &= v == x[0];
        }
        if (same) {
            ways.add(new Told(new Bits().put(b, x[0]).text(), 0, wasted, -1));
        }
        int[][] fixed = {{}, {1}, {2, -1}, {3, -3, 1}, {4, -6, 4, -1}};
        for (int o = 0; o <= 4 && o <= x.length; o++) {
            ways.add(predicted(x, b, 8 + o, fixed[o], 0, wasted));
        }
        if (coefficients.length > 0 && coefficients.length <= x.length) {
            ways.add(predicted(x, b, 31 + coefficients.length, coefficients, shift, wasted));
        }
        Bits plain = new Bits();
        for (int v : x) {
            plain.put(b, v);
        }
        ways.add(new Told(plain.text(), 1, wasted, -1));
        Told best = null;
        for (Told t : ways) {
            if (t != null && (best == null || t.bits().length() < best.bits().length())) {
                best = t;
            }
        }
        Bits head = new Bits().put(1, 0).put(6, best.type()).put(1, wasted > 0 ? 1 : 0);
        if (wasted > 0) {
            head.row(wasted - 1);
        }
        return new Told(head.text() + best.bits(), best.type(), wasted, best.order());
    }

    static int wasted(int[] numbers) {
        int least = 32;
        for (int v : numbers) {
            least = Math.min(least, Integer.numberOfTrailingZeros(v));
        }
        return least == 32 ? 0 : least;
    }

    static long foretold(int[] x, int i, int[] coefficients, int shift) {
        long sum = 0;
        for (int j = 0; j < coefficients.length; j++) {
            sum += (long) coefficients[j] * x[i - 1 - j];
        }
        return Math.floorDiv(sum, 1L << shift);
    }

    private static Told predicted(int[] x, int b, int type, int[] coefficients, int shift, int wasted) {
        int o = coefficients.length;
        Bits out = new Bits();
        for (int i = 0; i < o; i++) {
            out.put(b, x[i]);
        }
        if (type > 31) {
            out.put(4, 14).put(5, shift);
            for (int c : coefficients) {
                out.put(15, c);
            }
        }
        long[] u = new long[x.length];
        for (int i = o; i < x.length; i++) {
            long e = x[i] - foretold(x, i, coefficients, shift);
            if (Math.abs(e) > 2147483647L) {
                return null;
            }
            u[i] = e >= 0 ? 2 * e : -2 * e - 1;
        }
        int bestOrder = -1;
        long bestSize = Long.MAX_VALUE;
        for (int q = 0; q <= 3; q++) {
            boolean can = x.length % (1 << q) == 0 && (q == 0 || x.length / (1 << q) > o);
            if (can && residualSize(u, o, q) < bestSize) {
                bestOrder = q;
                bestSize = residualSize(u, o, q);
            }
        }
        if (bestSize > 20000) {
            return null;
        }
        out.put(2, 0).put(4, bestOrder);
        int length = x.length >> bestOrder;
        for (int p = 0; p < 1 << bestOrder; p++) {
            int from = p == 0 ? o : p * length;
            int k = key(u, from, (p + 1) * length);
            out.put(4, k);
            for (int i = from; i < (p + 1) * length; i++) {
                out.row(u[i] >> k).put(k, u[i]);
            }
        }
        return new Told(out.text(), type, wasted, bestOrder);
    }

    private static long residualSize(long[] u, int o, int q) {
        long size = 6;
        int length = u.length >> q;
        for (int p = 0; p < 1 << q; p++) {
            int from = p == 0 ? o : p * length;
            size += 4 + partSize(u, from, (p + 1) * length, key(u, from, (p + 1) * length));
        }
        return size;
    }

    private static int key(long[] u, int from, int to) {
        int best = 0;
        for (int k = 1; k <= 14; k++) {
            if (partSize(u, from, to, k) < partSize(u, from, to, best)) {
                best = k;
            }
        }
        return best;
    }

    private static long partSize(long[] u, int from, int to, int k) {
        long size = 0;
        for (int i = from; i < to; i++) {
            size += (u[i] >> k) + 1 + k;
        }
        return size;
    }
}
