import java.io.IOException;
import java.nio.file.Files;
import java.nio.file.Path;
import java.util.ArrayList;
import java.util.LinkedHashMap;
import java.util.List;
import java.util.Map;

/** The document: its sections by their headings, each as one line. */
final class Document {
    static final Path PLACE = Path.of("../shared/DOC.md");

    private final Map<String, String> sections = new LinkedHashMap<>();
    private final List<String> face = new ArrayList<>();

    Document() throws IOException {
        String heading = "";
        boolean code = false;
        for (String line : Files.readAllLines(PLACE)) {
            code ^= line.startsWith("```");
            if (line.startsWith("## ")) {
                heading = line.substring(3).strip();
            } else if (code && line.startsWith("    public ")) {
                face.add(line.strip());
            } else {
                sections.merge(heading, line.strip() + " ", String::concat);
            }
        }
    }

    List<String> headings() {
        return new ArrayList<>(sections.keySet());
    }

    /** What a section says, without the declaration with which a promise begins. */
    String text(String heading) {
        return sections.getOrDefault(heading, "").strip().replaceFirst("^`[^`]*`: ", "");
    }

    /** The declaration with which a promise begins. */
    String declared(String heading) {
        return sections.get(heading).strip().replaceFirst("^`([^`]*)`: .*", "$1");
    }

    /** The heading of "Promise 3" is "Promise 3: ask". */
    String headingOf(String section) {
        for (String heading : sections.keySet()) {
            if (heading.equals(section) || heading.startsWith(section + ": ")) {
                return heading;
            }
        }
        return "";
    }

    List<String> face() {
        return face;
    }
}
