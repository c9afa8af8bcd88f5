import java.io.IOException;
import java.lang.reflect.Method;
import java.nio.file.Files;
import java.nio.file.Path;
import java.util.ArrayList;
import java.util.Arrays;
import java.util.List;
import java.util.TreeSet;
import java.util.regex.Matcher;
import java.util.regex.Pattern;

/** The document's face is that of the class, and each of its sentences is tested in its own words. */
public final class DocumentTest {
    private static final Path TESTS = Path.of("src/test/java");
    private static final Pattern TEXT = Pattern.compile("\"([^\"]*)\"");
    private static final Pattern SENTENCE =
        Pattern.compile("\\bsentence\\(\\s*\"([^\"]*)\",\\s*((?:\"[^\"]*\"[\\s+]*)+)\\);");
    private static final int PROMISES = 24;

    // These ask nothing that a test could find broken: a section that frees, and one that is code.
    private static final String FREES = "Not promised", CODE = "The public face", TITLE = "";

    private static final Checks CHECKS = new Checks();

    public static void main(String[] args) throws IOException, ReflectiveOperationException {
        if (!Files.exists(Document.PLACE)) {
            System.out.println("DocumentTest: there is no document to read");
            return;
        }
        Document document = new Document();
        methods(document);
        constants(document);
        promises(document);
        sentences(document);
        CHECKS.finish("DocumentTest");
    }

    private static void methods(Document document) {
        TreeSet<String> due = new TreeSet<>();
        for (String line : document.face()) {
            if (line.contains("(") && !line.equals("public PrefixRegistry();")) {
                due.add(Face.textOf(line));
            }
        }
        TreeSet<String> seen = new TreeSet<>();
        for (Method m : Face.methods()) {
            seen.add(Face.textOf(m));
        }
        CHECKS.due("methods", seen, due);
        CHECKS.due("constructor", document.face().contains("public PrefixRegistry();"), true);
    }

    private static void constants(Document document) throws ReflectiveOperationException {
        int seen = 0;
        for (String line : document.face()) {
            Matcher matcher = Pattern.compile("([A-Z_]+) = (-\\d+)").matcher(line);
            while (matcher.find()) {
                seen++;
                int value = PrefixRegistry.class.getField(matcher.group(1)).getInt(null);
                CHECKS.due(matcher.group(1), value, matcher.group(2));
            }
        }
        CHECKS.due("constants", PrefixRegistry.class.getFields().length, seen);
    }

    private static void promises(Document document) {
        List<String> declared = new ArrayList<>();
        for (int n = 1; n <= PROMISES; n++) {
            declared.add(Face.textOf(document.declared(document.headingOf("Promise " + n))));
        }
        List<String> face = new ArrayList<>();
        for (String line : document.face()) {
            if (line.contains("(")) {
                face.add(Face.textOf(line));
            }
        }
        CHECKS.due("declarations of the promises", declared, face);
    }

    private static void sentences(Document document) throws IOException {
        List<String[]> said = new ArrayList<>();
        for (String name : new String[] {"TermsEdgeTest", "ChangeEdgeTest", "LookEdgeTest"}) {
            collect(Files.readString(TESTS.resolve(name + ".java")), said);
        }
        for (String[] words : said) {
            String text = document.text(document.headingOf(words[0]));
            CHECKS.due(words[0] + " says: " + words[1], text.contains(words[1]), true);
        }
        for (String heading : document.headings()) {
            if (!heading.equals(FREES) && !heading.equals(CODE) && !heading.equals(TITLE)) {
                CHECKS.due(heading + ": what no test says", left(document, heading, said), "");
            }
        }
    }

    private static void collect(String source, List<String[]> said) {
        Matcher matcher = SENTENCE.matcher(source);
        while (matcher.find()) {
            StringBuilder words = new StringBuilder();
            Matcher parts = TEXT.matcher(matcher.group(2));
            while (parts.find()) {
                words.append(parts.group(1));
            }
            said.add(new String[] {matcher.group(1), words.toString()});
        }
    }

    /** The letters and digits of a section that stand in no sentence of a test. */
    private static String left(Document document, String heading, List<String[]> said) {
        String text = document.text(heading);
        boolean[] covered = new boolean[text.length()];
        for (String[] words : said) {
            boolean here = document.headingOf(words[0]).equals(heading);
            for (int at = here ? text.indexOf(words[1]) : -1; at >= 0; at = text.indexOf(words[1], at + 1)) {
                Arrays.fill(covered, at, at + words[1].length(), true);
            }
        }
        StringBuilder rest = new StringBuilder();
        for (int i = 0; i < covered.length; i++) {
            rest.append(covered[i] ? ' ' : text.charAt(i));
        }
        return rest.toString().replaceAll("[ .,:;]+", " ").strip();
    }
}
