import java.util.ArrayList;
import java.util.List;

/** All that an object holds, as the document tells it, and what each call answers from it. */
final class ModelPacker {
    private static final String BAD_ARGUMENT = "IllegalArgumentException";
    private static final String BAD_STATE = "IllegalStateException";

    int[] settings = {1, 16, 64, 44100};
    final List<Integer> samples = new ArrayList<>();
    final List<Integer> coefficients = new ArrayList<>();
    int shift = 0;
    Model.Made made = new Model.Made("", List.of(), List.of());
    String tape = "";
    int fault = 0;
    int place = -1;

    String answer(Call c) {
        switch (c.name()) {
            case "shape": return shape(c.at(0), c.at(1), c.at(2), c.at(3));
            case "predict": return predict(c.at(0));
            case "coefficient": return coefficient(c.at(0));
            case "push": return push(c.at(0));
            case "make": return make();
            case "octet": return "" + octet(c.at(0));
            case "way": return way(c.at(0), c.at(1), c.at(2));
            case "feed": return "" + feed(c.numbers()[0], c.at(1));
            case "again": tape = made.bits(); return "" + bytesOf(tape);
            case "read": return read();
            case "fault": return "" + fault;
            case "place": return "" + place;
            case "sample": return has(samples, c.at(0)) ? "" + samples.get(c.at(0)) : BAD_ARGUMENT;
            case "count": return "" + count(c.at(0));
            default: throw new AssertionError(c.name());
        }
    }

    private static boolean in(long x, long least, long most) {
        return least <= x && x <= most;
    }

    private static boolean has(List<?> list, int i) {
        return in(i, 0, list.size() - 1);
    }

    private static int bytesOf(String bits) {
        return bits.length() / 8;
    }

    private static int[] row(List<Integer> list) {
        return list.stream().mapToInt(v -> v).toArray();
    }

    private String shape(int channels, int bits, int block, int rate) {
        if (!in(channels, 1, 8) || !in(bits, 4, 24) || !in(block, 16, 256) || !in(rate, 1, 655350)) {
            return BAD_ARGUMENT;
        }
        settings = new int[] {channels, bits, block, rate};
        samples.clear();
        return Call.DONE;
    }

    private String predict(int newShift) {
        if (!in(newShift, 0, 14)) {
            return BAD_ARGUMENT;
        }
        coefficients.clear();
        shift = newShift;
        return Call.DONE;
    }

    private String coefficient(int c) {
        if (!in(c, -16384, 16383)) {
            return BAD_ARGUMENT;
        }
        if (coefficients.size() == 8) {
            return BAD_STATE;
        }
        coefficients.add(c);
        return Call.DONE;
    }

    private String push(int v) {
        int half = 1 << (settings[1] - 1);
        if (!in(v, -half, half - 1)) {
            return BAD_ARGUMENT;
        }
        if (samples.size() == 4096) {
            return BAD_STATE;
        }
        samples.add(v);
        return Call.DONE;
    }

    private String make() {
        if (samples.size() % settings[0] != 0) {
            return BAD_STATE;
        }
        made = Model.make(settings, row(samples), row(coefficients), shift);
        return "" + bytesOf(made.bits());
    }

    private int octet(int i) {
        return in(i, 0, bytesOf(made.bits()) - 1) ? Bits.of(made.bits()).octet(i) : -1;
    }

    private String way(int f, int c, int what) {
        if (!has(made.frames(), f) || !in(c, 0, made.frames().get(f).length - 1) || !in(what, 0, 4)) {
            return BAD_ARGUMENT;
        }
        Model.Told told = made.frames().get(f)[c];
        int[] all = {told.type(), told.wasted(), told.order(), told.bits().length(), made.assignments().get(f)};
        return "" + all[what];
    }

    private boolean feed(long w, int n) {
        if (!in(n, 1, 8) || bytesOf(tape) + n > 20000) {
            return false;
        }
        tape += new Bits().put(64, w).text().substring(0, 8 * n);
        return true;
    }

    private String read() {
        ModelReader reader = new ModelReader(tape);
        tape = "";
        fault = reader.fault;
        place = reader.place;
        if (fault != 0) {
            return BAD_ARGUMENT;
        }
        settings = new int[] {reader.channels, reader.width, reader.block, reader.rate};
        samples.clear();
        for (int v : reader.samples) {
            samples.add(v);
        }
        return "" + samples.size();
    }

    private int count(int what) {
        int[] all = {samples.size(), settings[0], settings[1], settings[2], settings[3], bytesOf(made.bits()),
                made.frames().size(), bytesOf(tape), coefficients.size()};
        return in(what, 0, 8) ? all[what] : -1;
    }
}
