import java.io.IOException;
import java.nio.file.Files;
import java.nio.file.Path;
import java.util.LinkedHashMap;
import java.util.Map;

/** The document's text, for the tests that hold the project against its words. */
final class Document {
    private static final Path PLACE = Path.of("../shared/DOC.md");

    private Document() {
    }

    static boolean isReadable() {
        return Files.isReadable(PLACE);
    }

    /** The text under each heading, by the heading up to its colon. */
    static Map<String, String> sections() throws IOException {
        Map<String, String> found = new LinkedHashMap<>();
        for (String part : Files.readString(PLACE).split("(?m)^## ")) {
            String heading = part.lines().findFirst().orElse("");
            found.put(heading.split(":")[0], part.substring(heading.length()));
        }
        return found;
    }
}
