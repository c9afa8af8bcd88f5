import java.io.IOException;
import java.nio.file.Files;
import java.nio.file.Path;
import java.util.ArrayList;
import java.util.List;
import java.util.TreeSet;
import java.util.regex.Matcher;
import java.util.regex.Pattern;

/** The program's text without its comments, and its methods, found by how their lines are indented. */
final class ProgramText {
    private static final Path PROGRAM = Path.of("src/main/java/PrefixRegistry.java");
    private static final Pattern HEAD = Pattern.compile(
        "( {4}| {8})(?!if |for |switch |while |return |throw |else |new )(?:(?:public|private|static|final) )*"
            + "(?:[\\w\\[\\]]+ )?(\\w+)\\(([^()]*)\\)(?: throws [\\w, ]+)?(?: \\{)?");

    /** A method or a constructor: its name, its parameters and its lines, from its head on. */
    record Part(String name, String parameters, List<String> lines) {
        boolean isConstructor() {
            return Character.isUpperCase(name.charAt(0));
        }

        String body() {
            return String.join("\n", lines.subList(1, lines.size()));
        }
    }

    final List<String> lines = new ArrayList<>();
    final List<Part> parts = new ArrayList<>();

    ProgramText() throws IOException {
        for (String line : Files.readAllLines(PROGRAM)) {
            String text = line.strip();
            lines.add(text.startsWith("//") || text.startsWith("/*") || text.startsWith("*") ? "" : line);
        }
        for (int i = 0; i < lines.size(); i++) {
            Matcher head = HEAD.matcher(lines.get(i));
            if (head.matches()) {
                int end = lines.subList(i, lines.size()).indexOf(head.group(1) + "}");
                parts.add(new Part(head.group(2), head.group(3), lines.subList(i, i + end + 1)));
            }
        }
    }

    /** All that is found in the text, each once. */
    TreeSet<String> found(String what) {
        return found(String.join("\n", lines), what);
    }

    static TreeSet<String> found(String text, String what) {
        TreeSet<String> seen = new TreeSet<>();
        Matcher matcher = Pattern.compile(what, Pattern.MULTILINE).matcher(text);
        while (matcher.find()) {
            seen.add(matcher.group());
        }
        return seen;
    }
}
