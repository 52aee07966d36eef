import java.io.IOException;
import java.nio.charset.StandardCharsets;
import java.nio.file.Files;
import java.nio.file.Path;
import java.util.LinkedHashMap;
import java.util.Map;

/** The sentence of the document that the checks behind it are about. */
final class Sentence {
    private static final Path DOCUMENT = Path.of("../shared/DOC.md");
    private static Map<String, String> parts = null;

    private Sentence() {
    }

    /** Names a sentence under a heading ("Terms", "Promise 9"), and holds that it stands there. */
    static void of(String heading, String sentence) {
        Due.topic(heading + ": \"" + sentence + "\"");
        if (!parts().isEmpty()) {
            boolean stands = parts().getOrDefault(heading, "").contains(sentence);
            Due.due("the document says so", stands ? 1 : 0, 1);
        }
    }

    /** What the document says under each heading, blanks and ends of lines being one blank each. */
    static Map<String, String> parts() {
        if (parts == null) {
            parts = new LinkedHashMap<>();
            if (Files.isReadable(DOCUMENT)) {
                readAll();
            } else {
                System.out.println(DOCUMENT + " is not there: what is quoted of it was not looked up");
            }
        }
        return parts;
    }

    private static void readAll() {
        try {
            String heading = "";
            for (String line : Files.readAllLines(DOCUMENT, StandardCharsets.UTF_8)) {
                if (line.startsWith("## ")) {
                    heading = line.substring(3).replaceAll(":.*", "").trim();
                } else {
                    String so = parts.getOrDefault(heading, "") + " " + line;
                    parts.put(heading, so.replaceAll("\\s+", " "));
                }
            }
        } catch (IOException e) {
            throw new IllegalStateException(e);
        }
    }
}
