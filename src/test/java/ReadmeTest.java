import java.io.IOException;
import java.nio.file.Files;
import java.nio.file.Path;
import java.util.List;
import java.util.Map;
import java.util.TreeMap;
import java.util.regex.Matcher;
import java.util.regex.Pattern;

/** README.md's example: its lines are those that run here, and each number behind a // is the answer. */
public final class ReadmeTest {
    private static final Map<String, Integer> answers = new TreeMap<>();

    public static void main(String[] args) throws IOException {
        List<String> lines = exampleOf(Files.readString(Path.of("README.md")));
        Check.holds("README.md has an example", lines.size() > 20);
        sameLines(lines, Files.readAllLines(Path.of("src/test/java/ReadmeTest.java")));
        example();
        sameAnswers(lines);
        for (String word : new String[] {"## How to use it", "## How to run its tests", ".ci/run"}) {
            Check.holds("README.md says: " + word, Files.readString(Path.of("README.md")).contains(word));
        }
        Check.end();
    }

    private static List<String> exampleOf(String readme) {
        String behind = readme.substring(readme.indexOf("```java") + 7);
        return behind.substring(0, behind.indexOf("```")).lines().map(String::strip).filter(l -> !l.isEmpty()).toList();
    }

    /** The example's lines stand in the test in their order, with lines of the test's own between them. */
    private static void sameLines(List<String> example, List<String> source) {
        int at = 0;
        for (String line : example) {
            while (at < source.size() && !source.get(at).strip().equals(line)) {
                at++;
            }
            Check.holds("this line is run: " + line, at < source.size());
            at++;
        }
    }

    private static void sameAnswers(List<String> example) {
        Pattern told = Pattern.compile("int (\\w+) = .*; +// (-?\\d+):?.*");
        int found = 0;
        for (String line : example) {
            Matcher m = told.matcher(line);
            if (m.matches()) {
                found++;
                Check.due(m.group(1), answers.getOrDefault(m.group(1), -999), Integer.parseInt(m.group(2)));
            }
        }
        Check.due("answers that are told", found, answers.size());
    }

    private static void example() {
        SoundPacker x = new SoundPacker();
        x.shape(2, 16, 64, 44100);              // CHANNELS, BITS, BLOCK, RATE; the samples are none then
        for (int i = 0; i < 80; i++) {          // the samples: of each moment one for each channel
            x.push(i * i);
            x.push(i * i - 3);
        }
        int bytes = x.make();                   // 92: the samples became a stream, which is kept
        int first = x.octet(0);                 // 102: its bytes, one by one
        int frames = x.count(6);                // 2: one of 64 moments, and one of the 16 that are left
        int assignment = x.way(0, 0, 4);        // 8: frame 0 tells l and l - r
        int type = x.way(0, 0, 0);              // 11: and tells the first of them by FIXED predictor 3
        answers.putAll(Map.of("bytes", bytes, "first", first, "frames", frames, "assignment", assignment, "type", type));

        SoundPacker y = new SoundPacker();
        for (int i = 0; i < bytes; i++) {
            y.feed((long) x.octet(i) << 56, 1); // 1 to 8 bytes a call, the highest of them first
        }
        int samples = y.read();                 // 160: settings and samples are the stream's now
        int last = y.sample(159);               // 6238: the same that was pushed
        answers.putAll(Map.of("samples", samples, "last", last));

        x.again();                              // the stream that x made latest is its tape
        x.feed(0, 1);                           // and a byte more, which has no place there
        try {
            x.read();
        } catch (IllegalArgumentException e) {
            int fault = x.fault();              // 2: it can't be so
            int place = x.place();              // 736: the bit at which it begins
            answers.putAll(Map.of("fault", fault, "place", place));
        }
    }
}
