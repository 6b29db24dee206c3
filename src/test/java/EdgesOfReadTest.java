import java.util.function.Consumer;

/** Promises 11 to 13 at their edges: where a stream ends, what comes first, and what a refused read() leaves. */
public final class EdgesOfReadTest {
    public static void main(String[] args) {
        endsInEachItem();
        endsInOtherWords();
        endsInLongRows();
        endsAheadOfAnOlderTape();
        endsInFrameNumber();
        endsInLaterFrames();
        noBitsNoEnd();
        firstFaultOnly();
        faultOfTheLatest();
        refusedReadLeavesAll();
        nothingOfAHalfReadStream();
        settingsAndSamplesOfTheStream();
        readAgainAndAgain();
        Check.end();
    }

    /** Cut behind each of its bytes, the stream ends in the item that the next bit belongs to. */
    private static void cutEverywhere(String name, Bits b) {
        for (int bytes = 0; bytes < b.bytes(); bytes++) {
            Reading.bad(name + ", cut behind " + bytes, b.copy().cut(bytes), 1, b.itemAt(8 * bytes));
        }
    }

    private static void whole(String name, Bits b, int samples) {
        SoundPacker x = new SoundPacker();
        b.feedTo(x);
        Check.due(name + ": read()", x.read(), samples);
        Check.due(name + ": fault()", x.fault(), 0);
        Check.due(name + ": place()", x.place(), -1);
    }

    /** "1: the stream ends in the item": a row of bits 0 in the first subframe moves all items of the second by a bit. */
    private static void endsInEachItem() {
        for (int zeros = 0; zeros < 8; zeros++) {
            Bits b = new Bits().head(2, 8, 16, 8000, 4).frame(8, 0, 4);
            b.subframe(8).put(2, 0).put(4, 0).put(4, 0).row(zeros).row(0).row(0).row(0);
            b.subframe(33, 2).put(7, 1).put(7, -1).put(4, 4).put(5, 1).put(5, 2).put(5, -1);
            b.put(2, 1).put(4, 1).put(5, 7).put(5, 31).put(5, 9).put(9, 3).put(9, -2).endFrame();
            whole("all items", b, 8);
            cutEverywhere("all items, " + zeros, b);
            Bits c = new Bits().head(3, 8, 16, 8000, 2).frame(2, 0, 2);
            c.subframe(8).put(2, 0).put(4, 0).put(4, 0).row(zeros).row(0);
            c.subframe(0, 3).put(5, 9).subframe(1).put(8, 5).put(8, -5).endFrame();
            whole("other types", c, 6);
            cutEverywhere("other types, " + zeros, c);
            Bits d = new Bits().head(2, 8, 16, 8000, 2).frame(1, 0, 2);
            d.subframe(8).put(2, 0).put(4, 0).put(4, 0).row(zeros).row(0);
            d.subframe(9).put(8, 3).put(2, 0).put(4, 0).put(4, 6).row(0).put(6, 9).endFrame();
            whole("K bits", d, 4);
            cutEverywhere("K bits, " + zeros, d);
        }
    }

    private static Bits otherWords() {
        return new Bits().put(32, 0x664C6143L).put(1, 0).put(7, 0).put(24, 34).settings(1, 8, 16, 8000, 1)
                .put(1, 0).put(7, 4).put(24, 0).put(1, 0).put(7, 126).put(24, 5).oneItem("01".repeat(20))
                .put(1, 1).put(7, 1).put(24, 1).oneItem("1".repeat(8));
    }

    /** "the bytes of words that are passed over, all of them one item" */
    private static void endsInOtherWords() {
        Bits b = otherWords().frames(8, 16, 1, 5);
        whole("other words", b, 1);
        cutEverywhere("other words", b);
    }

    /** "rows of bits 0 with the 1 behind them": a row without its 1 is where the stream ends, however long it is. */
    private static void endsInLongRows() {
        for (int zeros : new int[] {1, 5, 6, 7, 8, 9, 20, 100, 1000}) {
            Bits wasted = new Bits().head(1, 8, 16, 8000, 1).frame(0, 0, 1).put(1, 0).put(6, 0).put(1, 1);
            Bits cut = wasted.copy().add("0".repeat(zeros));
            cut.add("0".repeat(-cut.length() & 7));
            Reading.bad("wasted bits without a 1", cut, 1, wasted.length());
            Bits row = new Bits().head(1, 8, 16, 8000, 1).frame(0, 0, 1).subframe(8).put(2, 0).put(4, 0).put(4, 2);
            cut = row.copy().add("0".repeat(zeros));
            cut.add("0".repeat(-cut.length() & 7));
            Reading.bad("a row without a 1", cut, 1, row.length());
            // The 1 is the very last bit there is: its K bits are missing.
            Bits last = row.copy().add("0".repeat(8 * zeros + (-row.length() - 1 & 7)) + "1");
            Reading.bad("a row and nothing behind", last, 1, last.length());
        }
    }

    /** What an older and longer tape held behind the end of this one is no part of it, be it fed or made. */
    private static void endsAheadOfAnOlderTape() {
        Bits b = new Bits().head(1, 8, 16, 8000, 2).frame(0, 0, 2).subframe(8).put(2, 0).put(4, 0).put(4, 3)
                .row(2).put(3, 1).row(1).put(3, 2).endFrame();
        whole("the older tape", b, 2);
        for (int bytes = 0; bytes < b.bytes(); bytes++) {
            for (int ones = 0; ones <= 1; ones++) {
                SoundPacker x = new SoundPacker();
                if (ones == 0) {
                    b.feedTo(x);
                    x.read();
                } else {
                    Bits.of("1".repeat(8 * b.bytes() + 800)).feedTo(x);
                    Check.badArgument("bits 1: read()", x::read);
                }
                b.copy().cut(bytes).feedTo(x);
                Check.badArgument("cut behind " + bytes + ": read()", x::read);
                Check.due("cut behind " + bytes + ": fault()", x.fault(), 1);
                Check.due("cut behind " + bytes + ": place()", x.place(), b.itemAt(8 * bytes));
            }
        }
        SoundPacker x = Making.packer(1, 16, 16, 30000, -29999, 12345, 7, -8, 999);
        x.make();
        x.again();
        Check.due("the longer stream is read", x.read(), 6);
        Bits row = new Bits().head(1, 8, 16, 8000, 1).frame(0, 0, 1).subframe(8).put(2, 0).put(4, 0).put(4, 0);
        row.copy().put(-row.length() & 7, 0).feedTo(x);
        Check.badArgument("a row without a 1: read()", x::read);
        Check.due("a row without a 1: fault()", x.fault(), 1);
        Check.due("a row without a 1: place()", x.place(), row.length());
    }

    /** Both bytes of a number from 128 on are items. */
    private static void endsInFrameNumber() {
        Bits b = new Bits().head(1, 4, 16, 8000, 4096).frames(4, 16, 16 * 130, 1);
        for (int bytes = b.bytes() - 24; bytes < b.bytes(); bytes++) {
            Reading.bad("frame 128 and 129, cut behind " + bytes, b.copy().cut(bytes), 1, b.itemAt(8 * bytes));
        }
    }

    /** A whole frame is not all of the stream if moments are left. */
    private static void endsInLaterFrames() {
        for (int moments : new int[] {15, 16, 17, 32, 33}) {
            Bits b = new Bits().head(1, 8, 16, 8000, moments).frames(8, 16, moments, 5);
            whole(moments + " moments", b, moments);
            cutEverywhere(moments + " moments", b);
            Bits more = new Bits().head(1, 8, 16, 8000, moments + 16).frames(8, 16, moments / 16 * 16, 5);
            Reading.bad("a frame is missing", more, 1, more.length());
        }
    }

    /** An item without bits is never where a stream ends: no bytes of words, no bits of a part that are told. */
    private static void noBitsNoEnd() {
        Bits none = new Bits().put(32, 0x664C6143L).put(1, 0).put(7, 0).put(24, 34).settings(1, 8, 16, 8000, 0)
                .put(1, 1).put(7, 3).put(24, 0);
        Reading.good("words of no bytes at the end", none);
        // Both parts are told by B = 0; the stream ends behind them, so the second sum is missing.
        Bits b = new Bits().head(1, 8, 16, 8000, 2).frame(0, 0, 2).subframe(8).put(2, 0).put(4, 1)
                .put(4, 15).put(5, 0).put(4, 15).put(5, 0);
        Check.due("the parts end with a byte", b.length() % 8, 0);
        Reading.bad("parts of no bits at the end", b, 1, b.length());
        Reading.good("parts of no bits", b.copy().endFrame(), 0, 0);
    }

    /** "the FAULT is the first one": of two that a stream has. */
    private static void firstFaultOnly() {
        Bits b = new Bits().head(1, 8, 16, 8000, 1).frames(8, 16, 1, 5);
        int[][] faults = {{0, 32, 0, 2}, {33, 7, 1, 2}, {40, 24, 35, 2}, {64, 16, 15, 2}, {80, 16, 15, 2}, {144, 20, 0, 2}, {167, 5, 24, 2},
            {172, 36, 4097, 4}, {336, 14, 0, 2}, {350, 2, 1, 2}, {352, 4, 0, 2}, {356, 4, 1, 2}, {360, 4, 1, 2}, {364, 4, 1, 2},
            {368, 8, 1, 4}, {376, 8, 1, 4}, {384, 8, 1, 3}, {392, 1, 1, 2}, {393, 6, 2, 2}, {408, 16, 0, 3}};
        for (int i = 0; i < faults.length; i++) {
            for (int j = i; j < faults.length; j++) {
                Bits wrong = b.copy().set(faults[i][0], faults[i][1], faults[i][2]).set(faults[j][0], faults[j][1], faults[j][2]);
                Reading.bad("faults at " + faults[i][0] + " and " + faults[j][0], wrong, faults[i][3], faults[i][0]);
            }
            Reading.bad("a fault at " + faults[i][0] + " and a byte behind",
                    b.copy().set(faults[i][0], faults[i][1], faults[i][2]).put(8, 0), faults[i][3], faults[i][0]);
            int end = (faults[i][0] + faults[i][1] + 7) / 8;
            Reading.bad("a fault at " + faults[i][0] + " and the end behind it",
                    b.copy().set(faults[i][0], faults[i][1], faults[i][2]).cut(end), faults[i][3], faults[i][0]);
        }
    }

    /** "The fault of the latest read(); 0 if it had none.", "Its place; -1 without." */
    private static void faultOfTheLatest() {
        SoundPacker x = new SoundPacker();
        Check.due("no read(): fault()", x.fault(), 0);
        Check.due("no read(): place()", x.place(), -1);
        Bits b = new Bits().head(1, 8, 16, 8000, 1).frames(8, 16, 1, 5);
        Bits[] streams = {b.copy().cut(0), b.copy().set(64, 16, 300), b.copy().flip(384), b.copy().set(172, 36, 5000), b,
            b.copy().set(376, 8, 2), b, b.copy().flip(0)};
        int[][] due = {{1, 0}, {2, 64}, {3, 384}, {4, 172}, {0, -1}, {4, 376}, {0, -1}, {2, 0}};
        for (int i = 0; i < due.length; i++) {
            streams[i].feedTo(x);
            if (due[i][0] == 0) {
                Check.due("read()", x.read(), 1);
            } else {
                Check.badArgument("read()", x::read);
            }
            stays(x, due[i][0], due[i][1]);
        }
    }

    /** No other call changes what the latest read() had. */
    private static void stays(SoundPacker x, int fault, int place) {
        x.shape(1, 8, 16, 8000);
        x.predict(1);
        x.coefficient(1);
        x.push(1);
        x.make();
        x.octet(0);
        x.way(0, 0, 0);
        x.again();
        Check.due("fault() behind other calls", x.fault(), fault);
        Check.due("place() behind other calls", x.place(), place);
        Check.badArgument("a refused push()", () -> x.push(128));
        x.feed(0, 0);
        Check.due("fault() behind refused calls", x.fault(), fault);
        Check.due("place() behind refused calls", x.place(), place);
        Check.due("fault() once more", x.fault(), fault);
        x.read();
    }

    /** "nothing changes (but what fault() and place() tell)", and the tape is empty. */
    private static void refusedReadLeavesAll() {
        Bits b = new Bits().head(2, 8, 16, 8000, 17).frames(8, 16, 17, 101, -50);
        for (int bit : new int[] {0, 64, 173, 360, 384, 392, b.length() - 17, b.length() - 1}) {
            refusedRead("a fault at " + bit, b.copy().flip(bit));
        }
        for (int bytes = 0; bytes < b.bytes(); bytes += 3) {
            refusedRead("cut behind " + bytes, b.copy().cut(bytes));
        }
        refusedRead("a byte behind", b.copy().put(8, 0));
    }

    private static void refusedRead(String name, Bits wrong) {
        Consumer<SoundPacker> before = x -> {
            Observed.fill(x);
            Check.badArgument("read()", x::read);
        };
        SoundPacker x = new SoundPacker();
        before.accept(x);
        wrong.feedTo(x);
        Check.badArgument(name + ": read()", x::read);
        Check.holds(name + ": fault()", x.fault() >= 1 && x.fault() <= 4);
        SoundPacker twin = new SoundPacker();
        before.accept(twin);
        Observed.alikeButForFault(name + " leaves all as it was", x, twin);
    }

    /** The fault stands at the very end of a long stream: none of its many good frames is kept. */
    private static void nothingOfAHalfReadStream() {
        Bits b = new Bits().head(1, 16, 256, 96000, 4096).frames(16, 256, 4096, 321);
        SoundPacker x = Making.packer(3, 12, 20, 1, -2, 3, -4, 5, -6);
        b.copy().flip(b.length() - 1).feedTo(x);
        Check.badArgument("read()", x::read);
        Check.due("fault()", x.fault(), 3);
        Check.due("place()", x.place(), b.length() - 16);
        int[] due = {6, 3, 12, 20, 8000, 0, 0, 0, 0};
        for (int what = 0; what < due.length; what++) {
            Check.due("count(" + what + ")", x.count(what), due[what]);
        }
        for (int i = 0; i < 6; i++) {
            Check.due("sample(" + i + ")", x.sample(i), i % 2 == 0 ? i + 1 : -i - 1);
        }
        Check.badArgument("sample(6)", () -> x.sample(6));
        Check.badArgument("push() of 13 bits", () -> x.push(2048));
    }

    /** "settings and samples are those of the stream: how many samples", whatever they were. */
    private static void settingsAndSamplesOfTheStream() {
        int[][] settings = {{1, 4, 16, 1}, {8, 24, 256, 655350}, {2, 16, 255, 44100}, {3, 23, 17, 655349}};
        for (int[] s : settings) {
            for (int moments : new int[] {0, 1, 20}) {
                SoundPacker x = new SoundPacker();
                Observed.fill(x);
                Check.badArgument("what is left on the tape", x::read);
                int[] v = new int[s[0]];
                for (int c = 0; c < v.length; c++) {
                    v[c] = c - 4;
                }
                new Bits().head(s[0], s[1], s[2], s[3], moments).frames(s[1], s[2], moments, v).feedTo(x);
                Check.due("read()", x.read(), moments * s[0]);
                int[] due = {moments * s[0], s[0], s[1], s[2], s[3], x.count(5), 1, 0, 2};
                for (int what = 0; what < due.length; what++) {
                    Check.due("count(" + what + ")", x.count(what), due[what]);
                }
                for (int i = 0; i < moments * s[0]; i++) {
                    Check.due("sample(" + i + ")", x.sample(i), v[i % s[0]]);
                }
                Check.badArgument("the sample behind", () -> x.sample(moments * s[0]));
            }
        }
    }

    /** What was read is made and read again, and samples are put behind it. */
    private static void readAgainAndAgain() {
        SoundPacker x = new SoundPacker();
        new Bits().head(2, 8, 16, 8000, 2).frames(8, 16, 2, 101, -50).feedTo(x);
        Check.due("read()", x.read(), 4);
        for (int round = 1; round <= 10; round++) {
            x.push(round);
            Check.badState("make() of an odd number", x::make);
            x.push(-round);
            int made = x.make();
            Check.due("again()", x.again(), made);
            Check.due("read()", x.read(), 4 + 2 * round);
            Check.due("the last but one", x.sample(2 + 2 * round), round);
            Check.due("the last", x.sample(3 + 2 * round), -round);
            Check.due("the first", x.sample(0), 101);
            Check.due("fault()", x.fault(), 0);
        }
    }
}
