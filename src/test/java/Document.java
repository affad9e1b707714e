import java.io.IOException;
import java.nio.file.Files;
import java.nio.file.Path;
import java.util.LinkedHashMap;
import java.util.Map;

/** The document's words by section, so that a test can be held to the sentence it stands for. */
final class Document {
    private static final Path PLACE = Path.of("..", "shared", "DOC.md");
    private static final Map<String, String> SECTIONS = read();

    private Document() {
    }

    /** Section names ("Terms", "Promise 3") with their text. */
    static Map<String, String> sections() {
        return SECTIONS;
    }

    /** Without the document at hand any words will do: the answers are still held to them. */
    static boolean says(String section, String words) {
        return SECTIONS.isEmpty() || SECTIONS.getOrDefault(section, "").contains(plain(words));
    }

    /** Line breaks and marks of code say nothing. */
    static String plain(String text) {
        return text.replace("`", "").replaceAll("\\s+", " ").strip();
    }

    private static Map<String, String> read() {
        Map<String, String> sections = new LinkedHashMap<>();
        String[] parts = wholeText().split("(?m)^## ");
        for (int k = 1; k < parts.length; k++) {
            String heading = parts[k].lines().findFirst().orElse("");
            sections.put(heading.replaceAll(":.*", "").strip(), plain(parts[k].substring(heading.length())));
        }
        return sections;
    }

    private static String wholeText() {
        try {
            return Files.readString(PLACE);
        } catch (IOException e) {
            System.out.println(PLACE + " can't be read, so no quote is held against it");
            return "";
        }
    }
}
