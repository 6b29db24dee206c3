/** What tests of streams that are made have in common. */
final class Making {
    private Making() {
    }

    static SoundPacker packer(int channels, int bits, int block, int... samples) {
        SoundPacker x = new SoundPacker();
        x.shape(channels, bits, block, 8000);
        for (int v : samples) {
            x.push(v);
        }
        return x;
    }

    /** Makes the stream of x, which is due to be this one, and looks around it for bytes that aren't. */
    static void same(String name, SoundPacker x, Bits due) {
        Check.due(name + ": make()", x.make(), due.bytes());
        Check.due(name + ": count(5)", x.count(5), due.bytes());
        for (int i = 0; i < due.bytes(); i++) {
            Check.due(name + ": octet(" + i + ")", x.octet(i), due.octet(i));
        }
        for (int i : new int[] {-1, due.bytes(), Integer.MIN_VALUE, Integer.MAX_VALUE, 19999, 20000}) {
            Check.due(name + ": octet(" + i + ")", x.octet(i), -1);
        }
    }

    /** What way() is due to tell of one subframe: type, wasted bits, order, bits, assignment. */
    static void told(String name, SoundPacker x, int f, int c, int... due) {
        for (int what = 0; what < due.length; what++) {
            Check.due(name + ": way(" + f + ", " + c + ", " + what + ")", x.way(f, c, what), due[what]);
        }
    }
}
