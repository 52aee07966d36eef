import java.io.IOException;
import java.nio.charset.StandardCharsets;
import java.nio.file.Files;
import java.nio.file.Path;
import java.util.regex.Matcher;
import java.util.regex.Pattern;

/** The calls that README.md shows answer what stands behind them. */
public final class ReadmeTest {
    private static final Pattern CALL = Pattern.compile("x\\.(\\w+)\\(([^)]*)\\);\\s+// (-?\\d+): .*");

    private ReadmeTest() {
    }

    public static void main(String[] args) throws IOException {
        Due.topic("README.md");
        Run r = new Run();
        int shown = 0;
        int made = 0;
        for (String line : Files.readAllLines(Path.of("README.md"), StandardCharsets.UTF_8)) {
            shown += line.startsWith("x.") ? 1 : 0;
            Matcher m = CALL.matcher(line);
            if (m.matches()) {
                r.due(Long.parseLong(m.group(3)), m.group(1), numbers(m.group(2)));
                made++;
            }
        }
        Due.due("calls that show what they answer", made, shown);
        Due.due("some are shown", shown > 0 ? 1 : 0, 1);
        Due.end();
    }

    private static long[] numbers(String row) {
        if (row.isEmpty()) {
            return new long[0];
        }
        String[] parts = row.split(",");
        long[] numbers = new long[parts.length];
        for (int i = 0; i < parts.length; i++) {
            numbers[i] = Long.decode(parts[i].trim().replaceAll("L$", ""));
        }
        return numbers;
    }
}
