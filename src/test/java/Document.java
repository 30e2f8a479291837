import java.io.IOException;
import java.nio.file.Files;
import java.nio.file.Path;
import java.util.LinkedHashMap;
import java.util.Map;
import java.util.regex.Matcher;
import java.util.regex.Pattern;

/** The parts of the document that promise something: "What it is", "Terms", "Section 1" .. "5", "Promise 1" .. "46". */
final class Document {
    private static final Path PLACE = Path.of("../shared/DOC.md");
    private static final Pattern HEAD = Pattern.compile(
            "(?m)^(?:## (Promise \\d+|What it is|Terms)\\b.*|([1-5])\\. [A-Z].*|## .*)$");

    private Document() {
    }

    /** The text of each part by its name, in one line, without the line that has the method's face. */
    static Map<String, String> parts() throws IOException {
        String text = Files.readString(PLACE);
        Map<String, String> parts = new LinkedHashMap<>();
        Matcher head = HEAD.matcher(text);
        String name = null;
        int from = 0;
        while (head.find()) {
            put(parts, name, text.substring(from, head.start()));
            name = head.group(1) != null ? head.group(1) : head.group(2) != null ? "Section " + head.group(2) : null;
            from = head.end();
        }
        put(parts, name, text.substring(from));
        return parts;
    }

    private static void put(Map<String, String> parts, String name, String text) {
        if (name != null) {
            parts.put(name, text.replaceAll("(?m)^`[^`]*\\([^`]*`: ", "").replaceAll("\\s+", " ").strip());
        }
    }
}
