import java.io.IOException;
import java.nio.charset.StandardCharsets;
import java.nio.file.DirectoryStream;
import java.nio.file.Files;
import java.nio.file.Path;
import java.util.HashMap;
import java.util.Map;
import java.util.regex.Matcher;
import java.util.regex.Pattern;

/** Each sentence of "Terms" and of promises 1 to 46 stands beside some test of edges. */
public final class EdgesCoverTest {
    private static final Pattern QUOTE = Pattern.compile(
        "Sentence\\.of\\(\"([^\"]*)\",\\s*((?:\"(?:[^\"\\\\]|\\\\.)*\"[\\s+]*)+)\\)");

    private EdgesCoverTest() {
    }

    public static void main(String[] args) throws IOException {
        Due.topic("what no test of edges quotes");
        Map<String, String> left = new HashMap<>(Sentence.parts());
        try (DirectoryStream<Path> files = Files.newDirectoryStream(Path.of("src/test/java"), "Edges*Test.java")) {
            for (Path file : files) {
                takeQuotes(Files.readString(file, StandardCharsets.UTF_8), left);
            }
        }
        for (int p = 0; p <= 46; p++) {
            String heading = p == 0 ? "Terms" : "Promise " + p;
            String rest = unquoted(left.getOrDefault(heading, ""));
            Due.due(heading + ": \"" + rest + "\"", rest.length(), 0);
        }
        Due.end();
    }

    /** What is left but for signatures, fences, headings in the face, numbers of paragraphs and points. */
    private static String unquoted(String rest) {
        return rest.replaceAll("```(text)?", " ").replaceAll("`[^`]*`:", " ")
            .replaceAll("Ahead of the calls [^.]* the interface says: ---- [^.]*\\.", " ")
            .replaceAll("\\b[1-4]\\. ", " ").replaceAll("[\\s.,;:()]+", " ").trim();
    }

    /** A quote is taken out wherever it stands, a blank being left in its place. */
    private static void takeQuotes(String source, Map<String, String> left) {
        Matcher m = QUOTE.matcher(source);
        while (m.find()) {
            String quote = m.group(2).replaceAll("\"[\\s+]*\"", "").trim();
            String bare = quote.substring(1, quote.length() - 1);
            left.computeIfPresent(m.group(1), (heading, so) -> so.replace(bare, " "));
        }
    }
}
