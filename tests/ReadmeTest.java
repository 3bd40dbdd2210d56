import java.io.IOException;
import java.nio.file.Files;
import java.nio.file.Path;
import java.util.Arrays;
import java.util.regex.Matcher;
import java.util.regex.Pattern;

/** The calls that README.md tells, in its order: each answers what stands behind it. */
public final class ReadmeTest extends Checks {
    private static final Pattern TEXT = Pattern.compile("give\\(packer, \"(.*)\"\\);");
    private static final Pattern CALL = Pattern.compile("packer\\.(\\w+)\\(([-0-9, ]*)\\); *// (-?\\d+|\\w+).*");

    private final CirclePacker packer = new CirclePacker();
    private int told = 0;

    private void make(String line) {
        Matcher text = TEXT.matcher(line);
        if (text.matches()) {
            Calls.give(packer, text.group(1));
            return;
        }
        Matcher call = CALL.matcher(line);
        if (call.matches()) {
            int[] p = Arrays.stream(call.group(2).split(", *")).filter(n -> !n.isEmpty())
                    .mapToInt(Integer::parseInt).toArray();
            same(line, Calls.answer(packer, call.group(1), p), call.group(3));
            told++;
        } else if (line.startsWith("packer.")) {
            same(line, "a line that the test cannot make", "a call with its answer behind it");
        }
    }

    private void makeAll(Iterable<String> lines) {
        for (String line : lines) {
            make(line);
        }
        is("the page tells calls", told > 0, true);
    }

    public static void main(String[] args) throws IOException {
        Iterable<String> lines = Files.readAllLines(Path.of("README.md"));
        part("README.md", () -> new ReadmeTest().makeAll(lines));
        end();
    }
}
