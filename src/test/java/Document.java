import java.io.IOException;
import java.nio.file.Files;
import java.nio.file.Path;
import java.util.ArrayList;
import java.util.LinkedHashMap;
import java.util.List;
import java.util.Map;

/** The document's text; read from the project's folder. */
final class Document {
    private static final Path PLACE = Path.of("../shared/DOC.md");

    /** The document's sections by the first words of their headings, each on one line. */
    static Map<String, String> sections() throws IOException {
        Map<String, String> sections = new LinkedHashMap<>();
        for (String section : Files.readString(PLACE).split("(?m)^## ")) {
            String[] parts = section.split("\n", 2);
            String text = parts.length == 2 ? parts[1].replaceAll("\\s+", " ").trim() : "";
            sections.put(parts[0].split(":")[0].trim(), text);
        }
        return sections;
    }

    /** The class's members as the document's face has them, without the last semicolon. */
    static List<String> members() throws IOException {
        String face = sections().getOrDefault("The public face", "");
        String inside = face.substring(face.indexOf('{') + 1, Math.max(face.indexOf('}'), 0));
        List<String> members = new ArrayList<>();
        for (String member : inside.split(";")) {
            if (!member.isBlank()) {
                members.add(member.trim());
            }
        }
        return members;
    }

    private Document() {
    }
}
