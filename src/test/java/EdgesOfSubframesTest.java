/** READING at its edges: subframes, residuals, and what can only be told when a frame is whole. */
public final class EdgesOfSubframesTest {
    private static final int SUBFRAME = 392;

    public static void main(String[] args) {
        firstBit();
        types();
        numbersOfSoManyBits();
        wastedBits();
        wastedBitsOfTheDifference();
        precision();
        shift();
        fixedPredictors();
        kindOfResiduals();
        orders();
        keys();
        plainResiduals();
        numbersTooFar();
        plainNumbersTooFar();
        foretoldTooFar();
        farResiduals();
        residualsThatWrapAround();
        sumsBeyond32Bits();
        bitsUpToAWholeByte();
        secondSum();
        channelsTooFar();
        longestFrames();
        sumAheadOfChannels();
        Check.end();
    }

    /** One channel, one frame of n moments: what it begins with. */
    private static Bits one(int bits, int n) {
        return new Bits().head(1, bits, 256, 8000, n).frame(0, 0, n);
    }

    private static Bits part(Bits b, int k) {
        return b.put(2, 0).put(4, 0).put(4, k);
    }

    private static Bits zeroPart(Bits b) {
        return part(b, 15).put(5, 0);
    }

    private static Bits folded(Bits b, int k, long e) {
        long u = e >= 0 ? 2 * e : -2 * e - 1;
        return b.row(u >> k).put(k, u);
    }

    /** "1: 0" */
    private static void firstBit() {
        Reading.good("0", one(8, 1).subframe(0).put(8, 7).endFrame(), 7);
        Reading.bad("1", one(8, 1).put(1, 1).put(6, 0).put(1, 0).put(8, 7).endFrame(), 2, SUBFRAME);
    }

    /** "TYPES: 0 .. 1 .. 8 + o, o from 0 to 4 and at most n .. 31 + o, o from 1 to 32 and at most n" */
    private static void types() {
        for (int n : new int[] {1, 2, 3, 4, 5, 7, 8, 9, 31, 32, 33}) {
            for (int type = 0; type < 64; type++) {
                int o = type >= 32 ? type - 31 : type >= 8 && type <= 12 ? type - 8 : type <= 1 ? 0 : n + 1;
                Bits b = one(8, n).subframe(type);
                if (o > n) {
                    Reading.bad(n + " numbers, type " + type, b.put(64, 0).endFrame(), 2, SUBFRAME + 1);
                    continue;
                }
                b.oneItem("0".repeat(8 * (type == 0 ? 1 : type == 1 ? n : o)));
                if (type >= 32) {
                    b.put(4, 0).put(5, 0).oneItem("1".repeat(o));
                }
                Reading.good(n + " numbers, type " + type, (type >= 8 ? zeroPart(b) : b).endFrame(), new int[n]);
            }
        }
    }

    /** "(if it can be below 0, in place of such a one x + 2^n)": the least and the greatest, in each place. */
    private static void numbersOfSoManyBits() {
        for (int bits = 4; bits <= 24; bits++) {
            int limit = 1 << (bits - 1);
            int[] v = {-limit, -limit + 1, -1, 0, 1, limit - 2, limit - 1};
            Bits plain = one(bits, v.length).subframe(1);
            Bits first = one(bits, 4).subframe(12);
            for (int i = 0; i < v.length; i++) {
                plain.put(bits, v[i]);
                Reading.good(bits + " bits: one number", one(bits, 2).subframe(0).put(bits, v[i]).endFrame(), v[i], v[i]);
            }
            Reading.good(bits + " bits: as they are", plain.endFrame(), v);
            first.put(bits, -limit).put(bits, limit - 1).put(bits, -1).put(bits, -limit);
            Reading.good(bits + " bits: first ones", zeroPart(first).endFrame(), -limit, limit - 1, -1, -limit);
        }
    }

    /** "w from 1 to b - 1: w - 1 bits 0 and a 1" */
    private static void wastedBits() {
        for (int bits : new int[] {4, 5, 8, 23, 24}) {
            for (int w = 1; w < bits; w++) {
                int b = bits - w;
                int least = -(1 << (bits - 1));
                Reading.good(w + " of " + bits + " wasted", one(bits, 2).subframe(0, w).put(b, 1L << (b - 1)).endFrame(), least, least);
                Reading.good(w + " of " + bits + " wasted", one(bits, 2).subframe(1, w).put(b, -1).put(b, 0).endFrame(), -(1 << w), 0);
            }
            for (int w : new int[] {bits, bits + 1, bits + 2, 31, 32, 33, 64, 256, 257}) {
                if (w >= bits) {
                    Reading.bad(w + " of " + bits + " wasted", one(bits, 2).subframe(0, w).put(32, 0).endFrame(), 2, SUBFRAME + 8);
                }
            }
        }
        Reading.good("wasted bits of residuals", part(one(8, 3).subframe(9, 3).put(5, 15), 0).row(1).row(2).endFrame(), 120, 112, 120);
        Reading.bad("one too far with wasted bits", part(one(8, 3).subframe(9, 3).put(5, 15), 0).row(2).row(2).endFrame(),
                2, SUBFRAME + 8 + 3 + 5 + 10);
    }

    private static Bits pair(int bits, int assignment, int n) {
        return new Bits().head(2, bits, 16, 8000, n).frame(assignment, 0, n);
    }

    /** "For l - r a subframe has b = BITS + 1, else BITS." */
    private static void wastedBitsOfTheDifference() {
        for (int a : new int[] {1, 8, 9, 10}) {
            for (int c = 0; c <= 1; c++) {
                int b = Model.side(a, c) ? 9 : 8;
                int other = Model.side(a, 1 - c) ? 9 : 8;
                Bits lead = c == 0 ? pair(8, a, 1) : pair(8, a, 1).subframe(0).put(other, 0);
                Bits good = lead.copy().subframe(0, b - 1).put(1, 0);
                Bits bad = lead.copy().subframe(0, b).put(1, 0);
                if (c == 0) {
                    good.subframe(0).put(other, 0);
                    bad.subframe(0).put(other, 0);
                }
                Reading.good("assignment " + a + ", channel " + c, good.endFrame(), 0, 0);
                Reading.bad("assignment " + a + ", channel " + c, bad.endFrame(), 2, lead.length() + 8);
            }
        }
    }

    /** "4: P - 1, P from 1 to 15", "o times P: coefficients" */
    private static void precision() {
        for (int p = 1; p <= 16; p++) {
            for (long c : new long[] {-(1L << (p - 1)), (1L << (p - 1)) - 1, -1, 0}) {
                Bits b = one(24, 2).subframe(32).put(24, 1).put(4, p - 1).put(5, 0).put(p, c);
                if (p <= 15) {
                    Reading.good("P " + p + ", coefficient " + c, zeroPart(b).endFrame(), 1, (int) c);
                } else {
                    Reading.bad("P 16", zeroPart(b).endFrame(), 2, SUBFRAME + 8 + 24);
                }
            }
        }
        Bits b = one(24, 33).subframe(63);
        int[] due = new int[33];
        for (int i = 0; i < 32; i++) {
            due[i] = i % 4;
            b.put(24, due[i]);
        }
        b.put(4, 14).put(5, 0);
        for (int j = 0; j < 32; j++) {
            int c = j % 2 == 0 ? -16384 + j : 16383 - j;
            b.put(15, c);
            due[32] += c * due[31 - j];
        }
        Reading.good("32 coefficients in their order", zeroPart(b).endFrame(), due);
    }

    /** "5: a shift from 0 to 15", "through 2^shift (down)" */
    private static void shift() {
        for (int s = 0; s < 32; s++) {
            for (int x : new int[] {8388607, -8388608, -1, 1, 0}) {
                Bits b = zeroPart(one(24, 2).subframe(32).put(24, x).put(4, 1).put(5, s).put(2, 1)).endFrame();
                if (s <= 15) {
                    Reading.good("shift " + s + " of " + x, b, x, Math.floorDiv(x, 1 << s));
                } else {
                    Reading.bad("shift " + s, b, 2, SUBFRAME + 8 + 24 + 4);
                }
            }
        }
    }

    /** "0; x1; 2 x1 - x2; 3 x1 - 3 x2 + x3; 4 x1 - 6 x2 + 4 x3 - x4" */
    private static void fixedPredictors() {
        int[] first = {1000, -20, 300, -4};
        int[] due = {0, 1000, 2 * -20 - 1000, 3 * 300 - 3 * -20 + 1000, 4 * -4 - 6 * 300 + 4 * -20 - 1000};
        for (int o = 0; o <= 4; o++) {
            Bits b = one(16, o + 1).subframe(8 + o);
            int[] x = new int[o + 1];
            for (int i = 0; i < o; i++) {
                b.put(16, first[i]);
                x[i] = first[i];
            }
            x[o] = due[o];
            Reading.good("fixed " + o, zeroPart(b).endFrame(), x);
        }
    }

    /** "2: 0 .. A stream that is read may have 2: 1" */
    private static void kindOfResiduals() {
        for (int kind = 0; kind <= 3; kind++) {
            Bits b = one(8, 2).subframe(8).put(2, kind).put(4, 0).put(kind == 0 ? 4 : 5, 1).row(2).put(1, 0).row(1).put(1, 1).endFrame();
            if (kind <= 1) {
                Reading.good("2: " + kind, b, 2, -2);
            } else {
                Reading.bad("2: " + kind, b, 2, SUBFRAME + 8);
            }
        }
    }

    /** "2^q goes into n, and n through 2^q is o or more" */
    private static void orders() {
        int[] lengths = {1, 2, 3, 4, 5, 6, 7, 8, 12, 15, 16, 17, 24, 32, 48, 64, 96, 128, 240, 255, 256};
        for (int n : lengths) {
            for (int o = 0; o <= Math.min(n, 4); o++) {
                for (int q = 0; q <= 15; q++) {
                    Bits b = one(4, n).subframe(8 + o).oneItem("0".repeat(4 * o)).put(2, 0).put(4, q);
                    int at = b.length() - 4;
                    boolean can = n % (1 << q) == 0 && n / (1 << q) >= o;
                    for (int p = 0; p < 1 << q && can; p++) {
                        b.put(4, 15).put(5, 0);
                    }
                    String name = n + " numbers, " + o + " first ones, order " + q;
                    if (can) {
                        SoundPacker x = new SoundPacker();
                        b.endFrame().feedTo(x);
                        Check.due(name + ": read()", x.read(), n);
                    } else {
                        Reading.bad(name, b.put(64, -1).put(64, -1), 2, at);
                    }
                }
            }
        }
        // The first part is without the first ones, and has none left where they are as many.
        Bits b = one(8, 6).subframe(10).put(8, 1).put(8, 2).put(2, 0).put(4, 1).put(4, 0).row(2).put(4, 1);
        Reading.good("the first part is shorter", b.row(0).put(1, 0).row(1).put(1, 0).row(0).put(1, 1).endFrame(), 1, 2, 4, 6, 9, 11);
        b = one(8, 4).subframe(10).put(8, 1).put(8, 2).put(2, 0).put(4, 1).put(4, 9).put(4, 0);
        Reading.good("the first part is empty", b.row(2).row(0).endFrame(), 1, 2, 4, 6);
        for (int o = 1; o <= 32; o *= 2) {
            for (int n : new int[] {2 * o - 2, 2 * o, 2 * o + 2}) {
                b = one(4, Math.max(n, o)).subframe(31 + o).oneItem("0".repeat(4 * o)).put(4, 0).put(5, 0).oneItem("0".repeat(o)).put(2, 0).put(4, 1);
                int at = b.length() - 4;
                if (n >= 2 * o) {
                    Reading.good("two parts of " + n + ", " + o + " first ones", b.put(4, 15).put(5, 0).put(4, 15).put(5, 0).endFrame(), new int[n]);
                } else {
                    Reading.bad("two parts of " + n + ", " + o + " first ones", b.put(64, -1), 2, at);
                }
            }
        }
    }

    /** "4: K", "2: 1, and then 5: K. The greatest K (15 or 31) means 5: B" */
    private static void keys() {
        for (int kind = 0; kind <= 1; kind++) {
            for (int k = 0; k <= (kind == 0 ? 14 : 30); k++) {
                Bits b = one(24, 9).subframe(8).put(2, kind).put(4, 0).put(4 + kind, k);
                int edge = Math.min(1 << k, 1 << 22);
                int[] e = {0, -1, 1, edge / 2, -edge / 2, edge, -edge, edge - 1, -edge + 1};
                for (int v : e) {
                    folded(b, k, v);
                }
                Reading.good("2: " + kind + ", K " + k, b.endFrame(), e);
            }
        }
        Reading.good("2: 1, K 14 is not the greatest", folded(one(8, 1).subframe(8).put(2, 1).put(4, 0).put(5, 14), 14, 5).endFrame(), 5);
        Reading.good("2: 1, K 15 is not the greatest", folded(one(8, 1).subframe(8).put(2, 1).put(4, 0).put(5, 15), 15, 5).endFrame(), 5);
        Reading.good("2: 1, K 16 is not the greatest", folded(one(8, 1).subframe(8).put(2, 1).put(4, 0).put(5, 16), 16, 5).endFrame(), 5);
        // Each part has a K of its own, of either kind.
        Bits b = one(8, 4).subframe(8).put(2, 0).put(4, 2).put(4, 15).put(5, 3).put(3, -4).put(4, 14).row(0).put(14, 9)
                .put(4, 15).put(5, 0).put(4, 0).row(3);
        Reading.good("a K for each part", b.endFrame(), -4, -5, 0, -2);
    }

    /** "5: B, and B bits for each residual of that part (B = 0: all are 0)" */
    private static void plainResiduals() {
        for (int kind = 0; kind <= 1; kind++) {
            for (int plain = 0; plain <= 31; plain++) {
                Bits b = one(24, 4).subframe(9).put(24, 100).put(2, kind).put(4, 0).put(4 + kind, -1).put(5, plain);
                if (plain == 0) {
                    Reading.good("2: " + kind + ", B 0", b.endFrame(), 100, 100, 100, 100);
                    continue;
                }
                int least = -(1 << Math.min(plain - 1, 20));
                b.put(plain, least).put(plain, -1 - least).put(plain, -1);
                Reading.good("2: " + kind + ", B " + plain, b.endFrame(), 100, 100 + least, 99, 98);
            }
        }
    }

    /** Three numbers that are 0 but for one, which is e; its residual begins at the place. */
    private static void oneOfThree(String name, Bits b, int limit, int at, int e, int place) {
        String told = name + ", number " + at + " is " + e;
        if (e >= -limit && e < limit) {
            int[] due = new int[3];
            due[at] = e;
            Reading.good(told, b, due);
        } else {
            Reading.bad(told, b, 2, place);
        }
    }

    /** "of residuals: if the number isn't of b bits, at u's first item" */
    private static void numbersTooFar() {
        for (int bits : new int[] {4, 8, 16, 24}) {
            int limit = 1 << (bits - 1);
            for (int k : new int[] {0, 3, 10, 14}) {
                if (2 * limit >> k > 2100) {
                    continue;
                }
                for (int at = 0; at < 3; at++) {
                    for (int e : new int[] {limit - 1, limit, limit + 1, -limit, -limit - 1}) {
                        Bits b = part(one(bits, 3).subframe(8), k);
                        int place = 0;
                        for (int i = 0; i < 3; i++) {
                            place = i == at ? b.length() : place;
                            folded(b, k, i == at ? e : 0);
                        }
                        oneOfThree(bits + " bits, K " + k, b.endFrame(), limit, at, e, place);
                    }
                }
            }
        }
    }

    /** "or where its B bits begin" */
    private static void plainNumbersTooFar() {
        for (int bits : new int[] {4, 8, 16, 24}) {
            int limit = 1 << (bits - 1);
            for (int plain : new int[] {bits + 1, bits + 2, 30, 31}) {
                for (int at = 0; at < 3; at++) {
                    for (int e : new int[] {limit - 1, limit, limit + 1, -limit, -limit - 1}) {
                        Bits b = part(one(bits, 3).subframe(8), 15).put(5, plain);
                        int place = b.length() + at * plain;
                        for (int i = 0; i < 3; i++) {
                            b.put(plain, i == at ? e : 0);
                        }
                        oneOfThree(bits + " bits, B " + plain, b.endFrame(), limit, at, e, place);
                    }
                }
            }
        }
    }

    /** "also if B = 0": the number is too far by what is foretold alone. */
    private static void foretoldTooFar() {
        for (int step : new int[] {1, 40}) {
            for (int sign : new int[] {1, -1}) {
                int end = sign > 0 ? 127 : -128;
                // The third number is just within, the fourth just beyond.
                Bits three = zeroPart(one(8, 3).subframe(10).put(8, end - 2 * sign * step).put(8, end - sign * step));
                Reading.good("B = 0, just within", three.endFrame(), end - 2 * sign * step, end - sign * step, end);
                for (int n = 4; n <= 6; n++) {
                    Bits more = zeroPart(one(8, n).subframe(10).put(8, end - 2 * sign * step).put(8, end - sign * step));
                    int place = more.length();
                    Reading.bad("B = 0, beyond", more.copy().endFrame(), 2, place);
                    Reading.bad("B = 0, beyond, and the stream ends there", more.copy().put(-more.length() & 7, 0), 2, place);
                }
            }
        }
        // In the second part, whose B bits begin behind its B.
        Bits b = one(8, 4).subframe(9).put(8, 127).put(2, 0).put(4, 1).put(4, 0).row(0).put(4, 15).put(5, 0).put(4, 0);
        Reading.good("the second part is foretold", b.endFrame(), 127, 127, 127, 127);
        b = one(8, 4).subframe(10).put(8, 126).put(8, 127).put(2, 0).put(4, 1).put(4, 3).put(4, 15).put(5, 0);
        Reading.bad("the second part is foretold too far", b.copy().endFrame(), 2, b.length());
        b = part(one(8, 3).subframe(10).put(8, 126).put(8, 127), 0);
        Reading.bad("a row alone is too far", b.copy().row(0).endFrame(), 2, b.length());
        Reading.good("a row brings it back", b.copy().row(1).endFrame(), 126, 127, 127);
        Reading.good("a row brings it back as far as can be", b.copy().row(511).endFrame(), 126, 127, -128);
        Reading.bad("a row brings it back too far", b.copy().row(513).endFrame(), 2, b.length());
    }

    /** What is foretold may be as far as it likes, if the residual takes it back. */
    private static void farResiduals() {
        long[] coefficients = {16383, -16384, 256, 255, -256, 1024};
        for (long c : coefficients) {
            for (int x : new int[] {8388607, -8388608}) {
                for (int due : new int[] {0, 8388607, -8388608, 8388608, -8388609}) {
                    Bits b = one(24, 2).subframe(32).put(24, x).put(4, 14).put(5, 0).put(15, c).put(2, 1).put(4, 0).put(5, 30);
                    int place = b.length();
                    folded(b, 30, due - c * x).endFrame();
                    if (due >= -8388608 && due <= 8388607) {
                        Reading.good("taken back from " + c * x, b, x, due);
                    } else {
                        Reading.bad("taken back from " + c * x, b, 2, place);
                    }
                }
            }
        }
        // B bits reach down to -2^30.
        Bits b = part(one(24, 2).subframe(32).put(24, 8388607).put(4, 14).put(5, 0).put(15, 128), 15).put(5, 31);
        Reading.good("taken back by 31 bits", b.put(31, -(1 << 30)).endFrame(), 8388607, -128);
    }

    /** Rows and sums that 32 bits would take for numbers that are near. */
    private static void residualsThatWrapAround() {
        for (int zeros : new int[] {4, 8, 12, 256, 1024}) {
            Bits b = one(8, 1).subframe(8).put(2, 1).put(4, 0).put(5, 30);
            Reading.bad(zeros + " times 2^30", b.copy().row(zeros).put(30, 10).endFrame(), 2, b.length());
        }
        Bits b = one(8, 1).subframe(8).put(2, 1).put(4, 0).put(5, 29);
        Reading.bad("8 times 2^29", b.copy().row(8).put(29, 10).endFrame(), 2, b.length());
        Reading.good("0 times 2^29", b.copy().row(0).put(29, 10).endFrame(), 5);
        // 2^18 times 2^14 is 2^32.
        b = zeroPart(one(24, 2).subframe(32).put(24, 1 << 18).put(4, 14).put(5, 0).put(15, -16384));
        Reading.bad("foretold -2^32", b.copy().endFrame(), 2, b.length());
    }

    /** Coefficients and numbers whose sum is beyond 32 bits until it is shifted down. */
    private static void sumsBeyond32Bits() {
        int[] due = new int[33];
        Bits b = one(24, 33).subframe(63);
        for (int i = 0; i < 32; i++) {
            due[i] = i % 2 == 0 ? 8388607 : -8388608;
            b.put(24, due[i]);
        }
        b.put(4, 14).put(5, 15);
        long sum = 0;
        for (int j = 0; j < 32; j++) {
            long c = j < 30 ? (j % 2 == 0 ? -16384 : j < 29 ? -16384 : 0) : 16383;
            b.put(15, c);
            sum += c * due[31 - j];
        }
        due[32] = (int) Math.floorDiv(sum, 32768L);
        Check.holds("the sum is within 24 bits when it is shifted", due[32] == Math.floorDiv(sum, 32768L) && Math.abs(due[32]) < 8388608);
        Reading.good("32 far numbers", zeroPart(b).endFrame(), due);
        for (int x : new int[] {8388607, -8388608}) {
            Bits two = zeroPart(one(24, 2).subframe(32).put(24, x).put(4, 14).put(5, 14).put(15, 16383));
            Reading.good("nearly the number before", two.endFrame(), x, (int) Math.floorDiv(16383L * x, 16384L));
        }
    }

    /** "the bits up to a whole byte are one item": 0 to 7 of them, all 0. */
    private static void bitsUpToAWholeByte() {
        for (int zeros = 0; zeros < 16; zeros += 2) {
            for (int odd = 0; odd <= 1; odd++) {
                // 8 + 10 bits and the row: all rests come up.
                Bits b = part(one(8, 1).subframe(8), 0).row(zeros + odd);
                int e = odd == 0 ? zeros / 2 : -zeros / 2 - 1;
                int left = -b.length() & 7;
                Reading.good(left + " bits up to a whole byte", b.copy().endFrame(), e);
                for (int v = 1; v < 1 << left; v++) {
                    Bits wrong = b.copy().put(left, v);
                    Reading.bad(left + " bits up to a whole byte: " + v, wrong.endFrame(), 2, b.length());
                }
            }
        }
    }

    /** "The second, over all bytes of the frame ahead of it": no byte is left out, nor is one taken of another frame. */
    private static void secondSum() {
        Bits b = new Bits().head(1, 8, 16, 8000, 17).frames(8, 16, 17, 5);
        for (int f = 0; f <= 1; f++) {
            int sum = 336 + 88 * f + 72;
            for (int i = 0; i < 16; i++) {
                Reading.bad("frame " + f + ": second sum, bit " + i, b.copy().flip(sum + i), 3, sum);
            }
            for (int i = 0; i < 8; i++) {
                Reading.bad("frame " + f + ": its number, bit " + i, b.copy().flip(sum - 8 + i), 3, sum);
            }
        }
        // Another assignment, and the first sum right again: only the second one tells.
        Bits two = pair(8, 8, 1).subframe(0).put(8, 1).subframe(0).put(9, 0).endFrame();
        Bits other = pair(8, 9, 1).subframe(0).put(9, 0).subframe(0).put(8, 1).endFrame();
        Bits mixed = two.copy().set(360, 4, 9).set(384, 8, other.octet(48));
        Reading.bad("another assignment", mixed, 3, two.length() - 16);
    }

    private static void unite(String name, int bits, int assignment, long first, long second, long l, long r) {
        Bits b = pair(bits, assignment, 1);
        b.subframe(0).put(Model.side(assignment, 0) ? bits + 1 : bits, first);
        b.subframe(0).put(Model.side(assignment, 1) ? bits + 1 : bits, second).endFrame();
        long limit = 1L << (bits - 1);
        String told = name + ": " + l + " and " + r;
        if (l >= -limit && l < limit && r >= -limit && r < limit) {
            Reading.good(told, b, (int) l, (int) r);
        } else {
            Reading.bad(told, b, 4, b.length() - 16);
            Reading.bad(told + ", and its sum", b.copy().flip(b.length() - 1), 3, b.length() - 16);
        }
    }

    /** "or a channel's number isn't of BITS bits (when the frame is whole, at its second sum)" */
    private static void channelsTooFar() {
        for (int bits : new int[] {4, 8, 24}) {
            long most = (1L << (bits - 1)) - 1;
            long least = -most - 1;
            long[] around = {least - 1, least, least + 1, -1, 0, 1, most - 1, most, most + 1};
            for (long r : around) {
                for (long l : new long[] {least, least + 1, 0, most - 1, most}) {
                    if (l - r >= 2 * least && l - r <= 2 * most + 1) {
                        unite("l and l - r", bits, 8, l, l - r, l, r);
                    }
                    if (r - l >= 2 * least && r - l <= 2 * most + 1) {
                        unite("l - r and r", bits, 9, r - l, l, r, l);
                    }
                }
                for (long l : around) {
                    long middle = Math.floorDiv(l + r, 2L);
                    boolean canBeTold = middle >= least && middle <= most && l - r >= 2 * least && l - r <= 2 * most + 1;
                    if (canBeTold) {
                        unite("the middle and l - r", bits, 10, middle, l - r, l, r);
                    }
                }
            }
            unite("the least difference", bits, 10, 0, 2 * least, least, -least);
            unite("the least difference", bits, 8, least, 2 * least, least, -least);
            unite("the least difference", bits, 9, 2 * least, most, most + 2 * least, most);
        }
    }

    /** Frames of 256 moments, told in each of the four ways. */
    private static void longestFrames() {
        int[] assignments = {1, 8, 9, 10};
        Bits b = new Bits().head(2, 16, 256, 8000, 1024);
        for (int f = 0; f < 4; f++) {
            int a = assignments[f];
            b.frame(a, f, 256).subframe(0).put(Model.side(a, 0) ? 17 : 16, 1001);
            b.subframe(0).put(Model.side(a, 1) ? 17 : 16, -3001).endFrame();
        }
        SoundPacker x = new SoundPacker();
        b.feedTo(x);
        Check.due("frames of 256: read()", x.read(), 2048);
        // l and r; l and l less -3001; r and 1001 and r; the middle 1001, of 2003, and l - r.
        int[] due = {1001, -3001, 1001, 4002, -2000, -3001, -499, 2502};
        for (int f = 0; f < 4; f++) {
            for (int i : new int[] {0, 1, 510, 511}) {
                Check.due("frames of 256: sample(" + (512 * f + i) + ")", x.sample(512 * f + i), due[2 * f + i % 2]);
            }
        }
    }

    /** "3: a sum is another one (ahead of 4 at one place)", and the first frame's fault ahead of the next one's. */
    private static void sumAheadOfChannels() {
        Bits far = new Bits().head(2, 8, 16, 8000, 17);
        far.frame(8, 0, 16).subframe(0).put(8, 127).subframe(1);
        for (int t = 0; t < 16; t++) {
            far.put(9, t == 15 ? -1 : 0);
        }
        int sum = far.endFrame().length() - 16;
        Reading.bad("the last moment is too far", far.copy(), 4, sum);
        Reading.bad("the last moment is too far, and the sum is wrong", far.copy().flip(sum + 3), 3, sum);
        Reading.bad("the last moment is too far, and the next frame is wrong", far.copy().put(64, 0), 4, sum);
        Reading.bad("the last moment is too far, and the sum is cut", far.copy().cut(sum / 8 + 1), 1, sum);
    }
}
