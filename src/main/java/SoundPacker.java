import java.util.Arrays;

/**
 * Sound without loss: samples of up to eight channels become a stream of frames, each channel of a
 * frame told by the shortest of many ways; a stream becomes the samples again, checked by sums.
 */
public final class SoundPacker {
    private static final int MOST_SAMPLES = 4096;
    private static final int MOST_BYTES = 20000;
    private static final int MOST_CHANNELS = 8;
    private static final int LEAST_BITS = 4;
    private static final int MOST_BITS = 24;
    private static final int LEAST_BLOCK = 16;
    private static final int MOST_BLOCK = 256;
    private static final int MOST_FRAMES = MOST_SAMPLES / LEAST_BLOCK;
    private static final int MOST_RATE = 655350;
    private static final int MOST_COEFFICIENTS = 8;
    private static final int MOST_SHIFT = 14;
    private static final int COEFFICIENT_BITS = 15;
    private static final long FARTHEST_RESIDUAL = 0x7FFFFFFFL;
    private static final long LONGER_THAN_ANY = 0x7FFFFFFFFFFFFFFFL;

    private static final long MARK = 0x664C6143L;
    private static final int FIRST_WORDS_BYTES = 34;
    private static final int SYNC = 0x3FFE;
    private static final int BLOCK_CODE = 6;
    private static final int FIRST_SUM = 7;
    private static final int SECOND_SUM = 0x8005;

    private static final int LEFT_AND_SIDE = 8;
    private static final int SIDE_AND_RIGHT = 9;
    private static final int MIDDLE_AND_SIDE = 10;

    private static final int CONSTANT = 0;
    private static final int VERBATIM = 1;
    private static final int FIXED = 8;
    private static final int MOST_FIXED_ORDER = 4;
    private static final int LINEAR = 31;
    private static final int MOST_LINEAR_ORDER = 32;

    private final Settings settings;
    private final Predictor predictor;
    private final int[] samples;
    private int sampleCount;
    private final Maker maker;
    private final Reader reader;

    public SoundPacker() {
        settings = new Settings();
        predictor = new Predictor(MOST_COEFFICIENTS);
        samples = new int[MOST_SAMPLES];
        sampleCount = 0;
        maker = new Maker();
        reader = new Reader();
    }

    public void shape(int channels, int bits, int block, int rate) throws IllegalArgumentException {
        if (!within(channels, 1, MOST_CHANNELS) || !within(bits, LEAST_BITS, MOST_BITS)
                || !within(block, LEAST_BLOCK, MOST_BLOCK) || !within(rate, 1, MOST_RATE)) {
            throw new IllegalArgumentException();
        }
        settings.channels = channels;
        settings.bits = bits;
        settings.block = block;
        settings.rate = rate;
        sampleCount = 0;
    }

    public void predict(int shift) throws IllegalArgumentException {
        if (!within(shift, 0, MOST_SHIFT)) {
            throw new IllegalArgumentException();
        }
        predictor.begin(shift);
    }

    public void coefficient(int c) throws IllegalArgumentException, IllegalStateException {
        if (!fits(c, COEFFICIENT_BITS)) {
            throw new IllegalArgumentException();
        }
        if (predictor.order >= MOST_COEFFICIENTS) {
            throw new IllegalStateException();
        }
        predictor.add(c);
    }

    public void push(int v) throws IllegalArgumentException, IllegalStateException {
        if (!fits(v, settings.bits)) {
            throw new IllegalArgumentException();
        }
        if (sampleCount >= MOST_SAMPLES) {
            throw new IllegalStateException();
        }
        samples[sampleCount] = v;
        sampleCount++;
    }

    public int make() throws IllegalStateException {
        if (sampleCount % settings.channels != 0) {
            throw new IllegalStateException();
        }
        int moments = sampleCount / settings.channels;
        maker.begin(settings, moments);
        for (int f = 0; f < MOST_FRAMES && f * settings.block < moments; f++) {
            int first = f * settings.block;
            maker.addFrame(samples, first, Math.min(settings.block, moments - first), settings.bits, predictor);
        }
        return maker.pen.size();
    }

    public int octet(int i) {
        return within(i, 0, maker.pen.size() - 1) ? maker.pen.bytes[i] & 255 : -1;
    }

    public int way(int f, int c, int what) throws IllegalArgumentException {
        if (!within(f, 0, maker.frames - 1) || !within(c, 0, maker.channels - 1) || !within(what, 0, 4)) {
            throw new IllegalArgumentException();
        }
        return maker.told(f, c, what);
    }

    public boolean feed(long w, int n) {
        return within(n, 1, 8) && reader.append(w, n);
    }

    public int again() {
        reader.load(maker.pen);
        return reader.size;
    }

    public int read() throws IllegalArgumentException {
        if (!reader.accepts()) {
            throw new IllegalArgumentException();
        }
        settings.become(reader.found);
        sampleCount = reader.moments * settings.channels;
        System.arraycopy(reader.samples, 0, samples, 0, sampleCount);
        return sampleCount;
    }

    public int fault() {
        return reader.fault;
    }

    public int place() {
        return reader.place;
    }

    public int sample(int i) throws IllegalArgumentException {
        if (!within(i, 0, sampleCount - 1)) {
            throw new IllegalArgumentException();
        }
        return samples[i];
    }

    public int count(int what) {
        switch (what) {
            case 0: return sampleCount;
            case 1: return settings.channels;
            case 2: return settings.bits;
            case 3: return settings.block;
            case 4: return settings.rate;
            case 5: return maker.pen.size();
            case 6: return maker.frames;
            case 7: return reader.size;
            case 8: return predictor.order;
            default: return -1;
        }
    }

    private static boolean within(long x, long least, long most) {
        return x >= least && x <= most;
    }

    private static boolean fits(long x, int bits) {
        long limit = 1L << (bits - 1);
        return x >= -limit && x < limit;
    }

    /** Whether channel c of a frame is told as the difference, which needs one bit more. */
    private static boolean isSide(int assignment, int c) {
        if (assignment == SIDE_AND_RIGHT) {
            return c == 0;
        }
        return (assignment == LEFT_AND_SIDE || assignment == MIDDLE_AND_SIDE) && c == 1;
    }

    private static int sumOf(byte[] bytes, int from, int to, int width, int polynomial) {
        int top = 1 << (width - 1);
        int mask = (1 << width) - 1;
        int sum = 0;
        for (int i = from; i < to; i++) {
            sum ^= (bytes[i] & 255) << (width - 8);
            for (int bit = 0; bit < 8; bit++) {
                boolean goes = (sum & top) != 0;
                sum = (sum << 1) & mask;
                if (goes) {
                    sum ^= polynomial;
                }
            }
        }
        return sum;
    }

    private static final class Settings {
        int channels;
        int bits;
        int block;
        int rate;

        Settings() {
            channels = 1;
            bits = 16;
            block = 64;
            rate = 44100;
        }

        void become(Settings other) {
            channels = other.channels;
            bits = other.bits;
            block = other.block;
            rate = other.rate;
        }
    }

    /** The FIXED predictors are of this kind too: their shift is 0. */
    private static final class Predictor {
        private static final int[] FIXED_COEFFICIENTS = {1, 2, -1, 3, -3, 1, 4, -6, 4, -1};

        final int[] coefficients;
        int order;
        int shift;

        Predictor(int mostCoefficients) {
            coefficients = new int[mostCoefficients];
            order = 0;
            shift = 0;
        }

        void begin(int newShift) {
            order = 0;
            shift = newShift;
        }

        void add(int c) {
            if (order < coefficients.length) {
                coefficients[order] = c;
                order++;
            }
        }

        void becomeFixed(int fixedOrder) {
            begin(0);
            int from = fixedOrder * (fixedOrder - 1) / 2;
            for (int j = 0; j < fixedOrder; j++) {
                add(FIXED_COEFFICIENTS[from + j]);
            }
        }

        /** What is foretold of numbers[i]; i is not below the order. */
        long foretell(int[] numbers, int i) {
            long sum = 0;
            for (int j = 0; j < order; j++) {
                sum += (long) coefficients[j] * numbers[i - 1 - j];
            }
            return sum >> shift;
        }
    }

    /** Bits are only ever put to bytes that are 0, so a row of bits 0 is a step of the place alone. */
    private static final class Pen {
        final byte[] bytes;
        private int at;

        Pen() {
            bytes = new byte[MOST_BYTES];
            at = 0;
        }

        int size() {
            return (at + 7) >> 3;
        }

        void clear() {
            Arrays.fill(bytes, 0, size(), (byte) 0);
            at = 0;
        }

        void put(int width, long x) {
            int left = width;
            while (left > 0 && at < 8 * MOST_BYTES) {
                int free = 8 - (at & 7);
                int taken = Math.min(free, left);
                left -= taken;
                int piece = (int) (x >> left) & ((1 << taken) - 1);
                bytes[at >> 3] |= (byte) (piece << (free - taken));
                at += taken;
            }
        }

        void putZeros(int many) {
            at = Math.min(at + many, 8 * MOST_BYTES);
        }

        void fillByte() {
            at = 8 * size();
        }
    }

    /** The residuals of one row of numbers against one predictor, and the shortest way to tell them. */
    private static final class Residuals {
        private static final int KEYS = 15;
        private static final int MOST_ORDER = 3;
        private static final int MOST_PARTS = 8;

        private final long[] folded;
        private int numbers;
        private int first;
        private final long[] sums;
        private final int[] keys;
        private final int[] triedKeys;
        int order;
        long size;

        Residuals() {
            folded = new long[MOST_BLOCK];
            sums = new long[MOST_PARTS * KEYS];
            keys = new int[MOST_PARTS];
            triedKeys = new int[MOST_PARTS];
        }

        /** False if a residual is too far from 0 for a stream that is made. */
        boolean take(int[] row, int n, Predictor predictor) {
            numbers = n;
            first = predictor.order;
            for (int i = first; i < n; i++) {
                long e = row[i] - predictor.foretell(row, i);
                if (!within(e, -FARTHEST_RESIDUAL, FARTHEST_RESIDUAL)) {
                    return false;
                }
                folded[i] = e >= 0 ? 2 * e : -2 * e - 1;
            }
            return true;
        }

        void measure() {
            int finest = finestOrder();
            addUp(finest);
            size = LONGER_THAN_ANY;
            for (int q = finest; q >= 0; q--) {
                long bits = bitsInParts(q);
                if (bits <= size) {
                    size = bits;
                    order = q;
                    System.arraycopy(triedKeys, 0, keys, 0, 1 << q);
                }
                joinPairs(q);
            }
        }

        private int finestOrder() {
            int q = 0;
            while (q < MOST_ORDER && (numbers >> q & 1) == 0 && numbers >> (q + 1) > first) {
                q++;
            }
            return q;
        }

        /** For each part and K: how many bits 0 stand ahead of the ones. */
        private void addUp(int q) {
            Arrays.fill(sums, 0);
            int length = numbers >> q;
            for (int part = 0; part < 1 << q; part++) {
                for (int i = Math.max(first, part * length); i < (part + 1) * length; i++) {
                    long left = folded[i];
                    for (int k = 0; k < KEYS && left > 0; k++) {
                        sums[part * KEYS + k] += left;
                        left >>= 1;
                    }
                }
            }
        }

        private long bitsInParts(int q) {
            long bits = 6;
            for (int part = 0; part < 1 << q; part++) {
                int many = (numbers >> q) - (part == 0 ? first : 0);
                long least = LONGER_THAN_ANY;
                for (int k = 0; k < KEYS; k++) {
                    long tried = 4 + sums[part * KEYS + k] + (long) many * (1 + k);
                    if (tried < least) {
                        least = tried;
                        triedKeys[part] = k;
                    }
                }
                bits += least;
            }
            return bits;
        }

        private void joinPairs(int q) {
            for (int part = 0; part < 1 << q >> 1; part++) {
                for (int k = 0; k < KEYS; k++) {
                    sums[part * KEYS + k] = sums[2 * part * KEYS + k] + sums[(2 * part + 1) * KEYS + k];
                }
            }
        }

        void write(Pen pen) {
            pen.put(2, 0);
            pen.put(4, order);
            int length = numbers >> order;
            for (int part = 0; part < 1 << order; part++) {
                int k = keys[part];
                pen.put(4, k);
                for (int i = Math.max(first, part * length); i < (part + 1) * length; i++) {
                    pen.putZeros((int) (folded[i] >> k));
                    pen.put(1, 1);
                    pen.put(k, folded[i]);
                }
            }
        }
    }

    /** One row of numbers and the way it is told. */
    private static final class Subframe {
        final int[] numbers;
        int length;
        int bits;
        int wasted;
        int type;
        int order;
        long size;

        Subframe() {
            numbers = new int[MOST_BLOCK];
        }

        void begin(int n, int b) {
            length = n;
            bits = b;
            wasted = 0;
            size = LONGER_THAN_ANY;
        }

        void dropWasted() {
            int all = 0;
            for (int i = 0; i < length; i++) {
                all |= numbers[i];
            }
            while (all != 0 && (all & 1) == 0 && wasted < bits - 1) {
                all >>= 1;
                wasted++;
            }
            for (int i = 0; i < length && wasted > 0; i++) {
                numbers[i] >>= wasted;
            }
            bits -= wasted;
        }

        boolean isOneNumber() {
            for (int i = 1; i < length; i++) {
                if (numbers[i] != numbers[0]) {
                    return false;
                }
            }
            return true;
        }

        /** What is offered first stays if a later way is only as short. */
        void offer(int newType, long newSize, int newOrder) {
            if (newSize < size) {
                type = newType;
                size = newSize;
                order = newOrder;
            }
        }
    }

    /** Finds and writes the shortest way of a subframe. */
    private static final class Chooser {
        private final Predictor fixed;
        private final Residuals residuals;

        Chooser() {
            fixed = new Predictor(MOST_FIXED_ORDER);
            residuals = new Residuals();
        }

        void choose(Subframe s, Predictor own) {
            s.dropWasted();
            int head = 8 + s.wasted;
            if (s.isOneNumber()) {
                s.offer(CONSTANT, head + s.bits, -1);
            }
            for (int o = 0; o <= MOST_FIXED_ORDER && o <= s.length; o++) {
                fixed.becomeFixed(o);
                offerPredicted(s, FIXED + o, head, fixed);
            }
            if (own.order > 0 && own.order <= s.length) {
                offerPredicted(s, LINEAR + own.order, head + 9 + COEFFICIENT_BITS * own.order, own);
            }
            s.offer(VERBATIM, head + s.length * s.bits, -1);
        }

        private void offerPredicted(Subframe s, int type, int head, Predictor predictor) {
            if (residuals.take(s.numbers, s.length, predictor)) {
                residuals.measure();
                s.offer(type, head + predictor.order * s.bits + residuals.size, residuals.order);
            }
        }

        void write(Subframe s, Predictor own, Pen pen) {
            pen.put(1, 0);
            pen.put(6, s.type);
            pen.put(1, s.wasted > 0 ? 1 : 0);
            pen.put(s.wasted, 1);
            if (s.type == CONSTANT) {
                writeNumbers(s, 1, pen);
            } else if (s.type == VERBATIM) {
                writeNumbers(s, s.length, pen);
            } else if (s.type > LINEAR) {
                writeNumbers(s, own.order, pen);
                writeCoefficients(own, pen);
                writeResiduals(s, own, pen);
            } else {
                fixed.becomeFixed(s.type - FIXED);
                writeNumbers(s, fixed.order, pen);
                writeResiduals(s, fixed, pen);
            }
        }

        private static void writeNumbers(Subframe s, int many, Pen pen) {
            for (int i = 0; i < many; i++) {
                pen.put(s.bits, s.numbers[i]);
            }
        }

        private static void writeCoefficients(Predictor own, Pen pen) {
            pen.put(4, COEFFICIENT_BITS - 1);
            pen.put(5, own.shift);
            for (int j = 0; j < own.order; j++) {
                pen.put(COEFFICIENT_BITS, own.coefficients[j]);
            }
        }

        /** Measured anew: many rows were measured since this one. */
        private void writeResiduals(Subframe s, Predictor predictor, Pen pen) {
            if (residuals.take(s.numbers, s.length, predictor)) {
                residuals.measure();
                residuals.write(pen);
            }
        }
    }

    /** The stream that was made latest, and how each of its subframes is told. */
    private static final class Maker {
        private static final int TOLD = 4;
        private static final int SIDE = 2;
        private static final int MIDDLE = 3;

        final Pen pen;
        int frames;
        int channels;
        private final int[] assignments;
        private final int[] ways;
        private final Chooser chooser;
        private final Subframe[] subframes;

        Maker() {
            pen = new Pen();
            frames = 0;
            channels = 0;
            assignments = new int[MOST_FRAMES];
            // The last frame may be short, and then has a subframe for each channel all the same.
            ways = new int[(MOST_FRAMES + MOST_CHANNELS) * TOLD];
            chooser = new Chooser();
            subframes = new Subframe[MOST_CHANNELS];
            for (int c = 0; c < MOST_CHANNELS; c++) {
                subframes[c] = new Subframe();
            }
        }

        int told(int f, int c, int what) {
            return what == TOLD ? assignments[f] : ways[(f * channels + c) * TOLD + what];
        }

        void begin(Settings settings, int moments) {
            frames = 0;
            channels = settings.channels;
            pen.clear();
            pen.put(32, MARK);
            pen.put(1, 1);
            pen.put(7, 0);
            pen.put(24, FIRST_WORDS_BYTES);
            pen.put(16, settings.block);
            pen.put(16, settings.block);
            pen.putZeros(24 + 24);
            pen.put(20, settings.rate);
            pen.put(3, channels - 1);
            pen.put(5, settings.bits - 1);
            pen.put(36, moments);
            pen.putZeros(128);
        }

        void addFrame(int[] samples, int first, int n, int bits, Predictor own) {
            for (int c = 0; c < channels; c++) {
                subframes[c].begin(n, bits);
                for (int i = 0; i < n; i++) {
                    subframes[c].numbers[i] = samples[(first + i) * channels + c];
                }
            }
            if (channels == 2) {
                fillSideAndMiddle(n, bits);
            }
            for (int s = 0; s < (channels == 2 ? 4 : channels); s++) {
                chooser.choose(subframes[s], own);
            }
            int assignment = channels == 2 ? shortestAssignment() : channels - 1;
            int from = pen.size();
            writeHeader(assignment, n);
            pen.put(8, sumOf(pen.bytes, from, pen.size(), 8, FIRST_SUM));
            for (int c = 0; c < channels; c++) {
                Subframe s = subframes[subframeOf(assignment, c)];
                chooser.write(s, own, pen);
                keepWay(s, c);
            }
            pen.fillByte();
            pen.put(16, sumOf(pen.bytes, from, pen.size(), 16, SECOND_SUM));
            assignments[frames] = assignment;
            frames++;
        }

        private void fillSideAndMiddle(int n, int bits) {
            subframes[SIDE].begin(n, bits + 1);
            subframes[MIDDLE].begin(n, bits);
            for (int i = 0; i < n; i++) {
                int l = subframes[0].numbers[i];
                int r = subframes[1].numbers[i];
                subframes[SIDE].numbers[i] = l - r;
                subframes[MIDDLE].numbers[i] = (l + r) >> 1;
            }
        }

        private int shortestAssignment() {
            int best = 1;
            for (int a = LEFT_AND_SIDE; a <= MIDDLE_AND_SIDE; a++) {
                if (sizeOf(a) < sizeOf(best)) {
                    best = a;
                }
            }
            return best;
        }

        private long sizeOf(int assignment) {
            return subframes[subframeOf(assignment, 0)].size + subframes[subframeOf(assignment, 1)].size;
        }

        private static int subframeOf(int assignment, int c) {
            if (isSide(assignment, c)) {
                return SIDE;
            }
            return assignment == MIDDLE_AND_SIDE ? MIDDLE : c;
        }

        private void writeHeader(int assignment, int n) {
            pen.put(14, SYNC);
            pen.put(2, 0);
            pen.put(4, BLOCK_CODE);
            pen.put(4, 0);
            pen.put(4, assignment);
            pen.put(4, 0);
            if (frames < 128) {
                pen.put(8, frames);
            } else {
                pen.put(8, 192 + (frames >> 6));
                pen.put(8, 128 + (frames & 63));
            }
            pen.put(8, n - 1);
        }

        private void keepWay(Subframe s, int c) {
            int at = (frames * channels + c) * TOLD;
            ways[at] = s.type;
            ways[at + 1] = s.wasted;
            ways[at + 2] = s.order;
            ways[at + 3] = (int) s.size;
        }
    }

    /** The tape and how it is read: item after item, and no further than the first fault. */
    private static final class Reader {
        private static final int ENDS = 1;
        private static final int IMPOSSIBLE = 2;
        private static final int OTHER_SUM = 3;
        private static final int UNFIT = 4;
        private static final int MOST_WORDS = MOST_BYTES / 4;

        private final byte[] tape;
        int size;
        int fault;
        int place;
        final Settings found;
        int moments;
        final int[] samples;
        private int at;
        private int item;
        private final int[][] rows;
        private final Predictor predictor;

        Reader() {
            tape = new byte[MOST_BYTES];
            size = 0;
            fault = 0;
            place = -1;
            found = new Settings();
            samples = new int[MOST_SAMPLES];
            rows = new int[MOST_CHANNELS][MOST_BLOCK];
            predictor = new Predictor(MOST_LINEAR_ORDER);
        }

        boolean append(long w, int n) {
            if (size + n > MOST_BYTES) {
                return false;
            }
            for (int i = 0; i < n; i++) {
                tape[size + i] = (byte) (w >> (56 - 8 * i));
            }
            size += n;
            return true;
        }

        void load(Pen pen) {
            size = pen.size();
            System.arraycopy(pen.bytes, 0, tape, 0, size);
        }

        boolean accepts() {
            fault = 0;
            place = -1;
            at = 0;
            boolean sound = true;
            try {
                openStream();
                for (int f = 0; f < MOST_FRAMES && f * found.block < moments; f++) {
                    readFrame(f, Math.min(found.block, moments - f * found.block));
                }
                expectEnd();
            } catch (IllegalStateException e) {
                sound = false;
            }
            size = 0;
            return sound;
        }

        /** Leaves the reading at once: only the first fault is told. */
        private void fail(int kind, int where) {
            fault = kind;
            place = where;
            throw new IllegalStateException();
        }

        private void failUnless(boolean good, int kind) {
            if (!good) {
                fail(kind, item);
            }
        }

        private long number(int width) {
            item = at;
            if (width > 8 * size - at) {
                fail(ENDS, at);
            }
            long x = 0;
            int left = width;
            while (left > 0) {
                int free = 8 - (at & 7);
                int taken = Math.min(free, left);
                int piece = (tape[at >> 3] & 255) >> (free - taken);
                x = x << taken | piece & ((1 << taken) - 1);
                left -= taken;
                at += taken;
            }
            return x;
        }

        private int zerosAndOne() {
            item = at;
            int end = 8 * size;
            while (at < end && (tape[at >> 3] >> (7 - (at & 7)) & 1) == 0) {
                at += (at & 7) == 0 && tape[at >> 3] == 0 ? 8 : 1;
            }
            if (at >= end) {
                fail(ENDS, item);
            }
            at++;
            return at - 1 - item;
        }

        private void pass(int bits) {
            if (bits > 8 * size - at) {
                fail(ENDS, at);
            }
            at += bits;
        }

        private void expect(int width, long due) {
            if (number(width) != due) {
                fail(IMPOSSIBLE, item);
            }
        }

        private static int signed(long x, int width) {
            return width > 0 && (x >> (width - 1) & 1) == 1 ? (int) (x - (1L << width)) : (int) x;
        }

        private static long unfolded(long u) {
            return (u & 1) == 0 ? u >> 1 : -(u >> 1) - 1;
        }

        private void openStream() {
            expect(32, MARK);
            boolean last = number(1) == 1;
            expect(7, 0);
            expect(24, FIRST_WORDS_BYTES);
            readSettings();
            for (int words = 0; !last && words < MOST_WORDS; words++) {
                last = number(1) == 1;
                failUnless(within(number(7), 1, 126), IMPOSSIBLE);
                pass(8 * (int) number(24));
            }
        }

        private void readSettings() {
            found.block = (int) number(16);
            failUnless(within(found.block, LEAST_BLOCK, MOST_BLOCK), IMPOSSIBLE);
            expect(16, found.block);
            pass(24);
            pass(24);
            found.rate = (int) number(20);
            failUnless(within(found.rate, 1, MOST_RATE), IMPOSSIBLE);
            found.channels = (int) number(3) + 1;
            found.bits = (int) number(5) + 1;
            failUnless(within(found.bits, LEAST_BITS, MOST_BITS), IMPOSSIBLE);
            long told = number(36);
            failUnless(told * found.channels <= MOST_SAMPLES, UNFIT);
            moments = (int) told;
            pass(128);
        }

        private void expectEnd() {
            if (at != 8 * size) {
                fail(IMPOSSIBLE, at);
            }
        }

        private void readFrame(int frame, int n) {
            int from = at >> 3;
            int assignment = readHeader(frame, n);
            expectSum(from, 8, FIRST_SUM);
            for (int c = 0; c < found.channels; c++) {
                readSubframe(rows[c], n, found.bits + (isSide(assignment, c) ? 1 : 0));
            }
            expect(-at & 7, 0);
            expectSum(from, 16, SECOND_SUM);
            uniteRows(assignment, n);
            keepSamples(frame * found.block, n);
        }

        /** The latest item is the second sum, where a number that is too far is told. */
        private void keepSamples(int first, int n) {
            for (int c = 0; c < found.channels; c++) {
                for (int i = 0; i < n; i++) {
                    failUnless(fits(rows[c][i], found.bits), UNFIT);
                    samples[(first + i) * found.channels + c] = rows[c][i];
                }
            }
        }

        private int readHeader(int frame, int n) {
            expect(14, SYNC);
            expect(2, 0);
            expect(4, BLOCK_CODE);
            expect(4, 0);
            int assignment = (int) number(4);
            boolean paired = found.channels == 2 && within(assignment, LEFT_AND_SIDE, MIDDLE_AND_SIDE);
            failUnless(paired || assignment == found.channels - 1, IMPOSSIBLE);
            expect(4, 0);
            readFrameNumber(frame);
            failUnless(number(8) == n - 1, UNFIT);
            return assignment;
        }

        private void readFrameNumber(int frame) {
            long head = number(8);
            failUnless(within(head, 0, 127) || within(head, 192, 223), IMPOSSIBLE);
            failUnless(head == (frame < 128 ? frame : 192 + (frame >> 6)), UNFIT);
            if (frame >= 128) {
                long tail = number(8);
                failUnless(within(tail, 128, 191), IMPOSSIBLE);
                failUnless(tail == 128 + (frame & 63), UNFIT);
            }
        }

        private void expectSum(int from, int width, int polynomial) {
            int due = sumOf(tape, from, at >> 3, width, polynomial);
            failUnless(number(width) == due, OTHER_SUM);
        }

        private void readSubframe(int[] row, int n, int bits) {
            expect(1, 0);
            int type = (int) number(6);
            int order = orderOf(type);
            failUnless(within(order, 0, n), IMPOSSIBLE);
            int wasted = 0;
            if (number(1) == 1) {
                wasted = zerosAndOne() + 1;
                failUnless(wasted < bits, IMPOSSIBLE);
            }
            int b = bits - wasted;
            if (type == CONSTANT) {
                Arrays.fill(row, 0, n, signed(number(b), b));
            } else if (type == VERBATIM) {
                readNumbers(row, n, b);
            } else {
                readNumbers(row, order, b);
                readPredictor(type, order);
                readResiduals(row, n, b);
            }
            for (int i = 0; i < n; i++) {
                row[i] <<= wasted;
            }
        }

        /** How many numbers stand ahead of the residuals, 0 where there are none, -1 if there is no such type. */
        private static int orderOf(int type) {
            if (type == CONSTANT || type == VERBATIM) {
                return 0;
            }
            if (within(type, FIXED, FIXED + MOST_FIXED_ORDER)) {
                return type - FIXED;
            }
            return within(type, LINEAR + 1, LINEAR + MOST_LINEAR_ORDER) ? type - LINEAR : -1;
        }

        private void readNumbers(int[] row, int many, int b) {
            for (int i = 0; i < many; i++) {
                row[i] = signed(number(b), b);
            }
        }

        private void readPredictor(int type, int order) {
            if (type <= LINEAR) {
                predictor.becomeFixed(order);
                return;
            }
            int precision = (int) number(4) + 1;
            failUnless(precision <= 15, IMPOSSIBLE);
            int shift = (int) number(5);
            failUnless(shift <= 15, IMPOSSIBLE);
            predictor.begin(shift);
            for (int j = 0; j < order; j++) {
                predictor.add(signed(number(precision), precision));
            }
        }

        private void readResiduals(int[] row, int n, int b) {
            int method = (int) number(2);
            failUnless(method <= 1, IMPOSSIBLE);
            int q = (int) number(4);
            int parts = 1 << q;
            int length = n >> q;
            failUnless(length << q == n && length >= predictor.order, IMPOSSIBLE);
            for (int part = 0; part < parts; part++) {
                int from = part == 0 ? predictor.order : part * length;
                readPart(row, from, (part + 1) * length, b, 4 + method);
            }
        }

        private void readPart(int[] row, int from, int to, int b, int keyBits) {
            int key = (int) number(keyBits);
            boolean plain = key == (1 << keyBits) - 1;
            int width = plain ? (int) number(5) : key;
            for (int i = from; i < to; i++) {
                int begin = at;
                long zeros = plain ? 0 : zerosAndOne();
                long rest = number(width);
                long e = plain ? signed(rest, width) : unfolded(zeros << width | rest);
                long x = predictor.foretell(row, i) + e;
                if (!fits(x, b)) {
                    fail(IMPOSSIBLE, begin);
                }
                row[i] = (int) x;
            }
        }

        private void uniteRows(int assignment, int n) {
            int[] a = rows[0];
            int[] b = rows[1];
            for (int i = 0; i < n; i++) {
                if (assignment == LEFT_AND_SIDE) {
                    b[i] = a[i] - b[i];
                } else if (assignment == SIDE_AND_RIGHT) {
                    a[i] += b[i];
                } else if (assignment == MIDDLE_AND_SIDE) {
                    int sum = 2 * a[i] + (b[i] & 1);
                    a[i] = (sum + b[i]) >> 1;
                    b[i] = a[i] - b[i];
                }
            }
        }
    }
}
