import java.io.IOException;
import java.nio.file.Files;
import java.nio.file.Path;
import java.util.TreeSet;
import java.util.regex.Matcher;
import java.util.regex.Pattern;

/** The calls that README.md shows, made one behind another on one object: each must answer what stands behind it. */
public final class ReadmeTest {
    private static final String MADE = "BandCornets band = new BandCornets();";
    private static final Pattern CALL = Pattern.compile(
        "band\\.(\\w+)\\(([^()]*)\\);\\s+// (-?[0-9.]+|throws \\w+)(?::.*)?");
    private static final Pattern BLOCK = Pattern.compile("(?s)```java\n(.*?)```");
    private static final int FEWEST_CALLS = 40;
    private static final int MOST_CALLS = 512;
    private static final Checks c = new Checks();

    private static BandCornets band = null;
    private static int calls = 0;
    private static final TreeSet<String> refused = new TreeSet<>();

    public static void main(String[] args) throws IOException {
        c.at("README.md");
        Matcher block = BLOCK.matcher(Files.readString(Path.of("README.md")));
        while (block.find()) {
            for (String line : block.group(1).split("\n")) {
                look(line.trim());
            }
        }
        c.due("calls, enough of them", calls >= FEWEST_CALLS && calls <= MOST_CALLS ? 1 : 0, 1);
        c.due("exceptions that are shown", refused.size(), 3);
        c.end("ReadmeTest");
    }

    private static void look(String line) {
        if (line.equals(MADE)) {
            band = new BandCornets();
            return;
        }
        Matcher call = CALL.matcher(line);
        boolean canBeRead = call.matches() && band != null;
        c.due("'" + line + "' can be read", canBeRead ? 1 : 0, 1);
        if (!canBeRead) {
            return;
        }
        calls++;
        int[] numbers = new int[3];
        String[] words = call.group(2).isEmpty() ? new String[0] : call.group(2).split(", ");
        for (int k = 0; k < words.length; k++) {
            numbers[k] = words[k].startsWith("'") ? words[k].charAt(1) : Integer.parseInt(words[k]);
        }
        long before = band.digest();
        String got = Calls.answer(() -> Calls.callOf(band, call.group(1), numbers[0], numbers[1], numbers[2]));
        c.due(line, got, dueOf(call.group(1), call.group(3)));
        if (got.startsWith("throws.")) {
            refused.add(got);
            c.due("'" + line + "', the digest behind it", band.digest(), before);
        }
    }

    private static String dueOf(String name, String told) {
        if (name.equals("played")) {
            return String.valueOf(Double.doubleToLongBits(Double.parseDouble(told)));
        }
        return told.replace("throws ", "throws.");
    }
}
