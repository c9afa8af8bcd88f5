import java.io.IOException;
import java.nio.file.Files;
import java.nio.file.Path;
import java.util.ArrayList;
import java.util.List;
import java.util.TreeSet;
import java.util.regex.Matcher;
import java.util.regex.Pattern;

/** Those of the language's rules that can be read from the text of the program. */
public final class LanguageTest {
    private static final Path PROGRAM = Path.of("src/main/java/PrefixRegistry.java");
    private static final String[] RULED_OUT = {
        "^package ", "^import ", "->", "::", "\\btry\\b", "\\bcatch\\b", "\\bfinally\\b", "\\bsynchronized\\b",
        "\\bassert\\b", "\\binstanceof\\b", "\\bvar\\b", "\\bdouble\\b", "\\bfloat\\b", "Exact\\(", "\\bObject\\b",
        "\\bSystem\\b", "\\bThread\\b", "\\bRandom\\b", "\\bequals\\b", "\\bhashCode\\b", "\\btoString\\b",
        "\\bprotected\\b", "static \\{", "\\(\\w+(, \\w+){7,}\\)", "while \\(true\\)", "for \\(;;\\)"};
    private static final String[] LIBRARY = {
        "Long.numberOfLeadingZeros", "Long.numberOfTrailingZeros", "Math.max"};

    private static final Checks CHECKS = new Checks();

    public static void main(String[] args) throws IOException {
        List<String> lines = withoutComments(Files.readAllLines(PROGRAM));
        ruledOut(lines);
        library(lines);
        exceptions(lines);
        classes(lines);
        CHECKS.finish("LanguageTest");
    }

    private static List<String> withoutComments(List<String> lines) {
        List<String> kept = new ArrayList<>();
        for (String line : lines) {
            String text = line.strip();
            kept.add(text.startsWith("//") || text.startsWith("/*") || text.startsWith("*") ? "" : line);
        }
        return kept;
    }

    private static void ruledOut(List<String> lines) {
        for (String rule : RULED_OUT) {
            CHECKS.due("ruled out: " + rule, found(lines, rule), "[]");
        }
    }

    private static void library(List<String> lines) {
        TreeSet<String> seen = found(lines, "\\b(?:Math|Long|Integer|Arrays|List|ArrayList)\\.\\w+");
        seen.removeAll(List.of(LIBRARY));
        CHECKS.due("library beside what is known to be allowed", seen, "[]");
    }

    private static void exceptions(List<String> lines) {
        CHECKS.due("thrown", found(lines, "\\bthrow .*"),
            "[throw new IllegalArgumentException();, throw new IllegalStateException();,"
            + " throw new IndexOutOfBoundsException();, throw new UnsupportedOperationException();]");
    }

    private static void classes(List<String> lines) {
        int classes = 0;
        for (String line : lines) {
            classes += line.contains(" class ") ? 1 : 0;
        }
        CHECKS.due("at most twelve classes, not " + classes, classes <= 12, true);
    }

    private static TreeSet<String> found(List<String> lines, String what) {
        TreeSet<String> seen = new TreeSet<>();
        Pattern pattern = Pattern.compile(what);
        for (String line : lines) {
            Matcher matcher = pattern.matcher(line);
            while (matcher.find()) {
                seen.add(matcher.group());
            }
        }
        return seen;
    }
}
