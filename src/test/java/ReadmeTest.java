import java.io.IOException;
import java.lang.reflect.Method;
import java.nio.file.Files;
import java.nio.file.Path;
import java.util.ArrayList;
import java.util.HashMap;
import java.util.List;
import java.util.Map;
import java.util.TreeSet;
import java.util.regex.Matcher;
import java.util.regex.Pattern;

/** What README.md says of the class: its example, and its tables of calls and codes. */
public final class ReadmeTest {
    private static final Path README = Path.of("README.md");
    private static final Pattern EXAMPLE = Pattern.compile(
        "(?:int (\\w+) = )?registry\\.(\\w+)\\((.*)\\); +// ([^ :]+)(?: ([A-Z_]+):)?.*");
    private static final Pattern CALL = Pattern.compile("`(\\w+)\\((.*)\\)`");
    private static final String KINDS =
        "[root, ask, reserve, give, back, grow, shrink, transfer, policy, day, quarantine]";
    private static final String CODES = "[NOT_GIVEN, SHAPE, DEEP, FULL, POLICY, TAKEN]";

    private static final Checks CHECKS = new Checks();
    private static final Map<String, Method> METHODS = new HashMap<>();

    public static void main(String[] args) throws IOException, ReflectiveOperationException {
        for (Method m : Face.methods()) {
            METHODS.put(m.getName(), m);
        }
        List<String> lines = Files.readAllLines(README);
        example(lines);
        calls(lines);
        codes(lines);
        CHECKS.finish("ReadmeTest");
    }

    private static void example(List<String> lines) {
        PrefixRegistry registry = new PrefixRegistry();
        Map<String, Integer> numbers = new HashMap<>();
        int seen = 0;
        for (String line : lines) {
            Matcher matcher = EXAMPLE.matcher(line);
            if (matcher.matches()) {
                seen++;
                String answer = answer(registry, METHODS.get(matcher.group(2)), matcher.group(3), numbers);
                CHECKS.due(line, answer, matcher.group(4));
                if (matcher.group(1) != null) {
                    numbers.put(matcher.group(1), Integer.valueOf(answer));
                }
                if (matcher.group(5) != null) {
                    CHECKS.due(line, valueOf(matcher.group(5)), matcher.group(4));
                }
            }
        }
        CHECKS.due("lines of the example are read", seen, lines.stream().filter(l -> l.contains("registry.")).count());
    }

    private static String answer(PrefixRegistry registry, Method m, String list, Map<String, Integer> numbers) {
        List<Object> arguments = new ArrayList<>();
        for (String word : list.isEmpty() ? new String[0] : list.split(", ")) {
            boolean truth = word.equals("true") || word.equals("false");
            arguments.add(truth ? Boolean.valueOf(word) : numbers.containsKey(word) ? numbers.get(word)
                : Integer.decode(word));
        }
        try {
            Object answer = m.invoke(registry, arguments.toArray());
            return m.getReturnType() == void.class ? "done" : String.valueOf(answer);
        } catch (ReflectiveOperationException e) {
            return "throws." + e.getCause().getClass().getSimpleName();
        }
    }

    private static int valueOf(String constant) {
        try {
            return PrefixRegistry.class.getField(constant).getInt(null);
        } catch (ReflectiveOperationException e) {
            return 0;
        }
    }

    private static void calls(List<String> lines) {
        TreeSet<String> left = new TreeSet<>(METHODS.keySet());
        List<String> kinds = new ArrayList<>();
        for (String line : lines) {
            String[] cells = line.split(" ?\\| ?");
            Matcher first = CALL.matcher(cells.length > 1 ? cells[1] : "");
            Matcher second = CALL.matcher(cells.length > 2 ? cells[2] : "");
            if (first.matches()) {
                row(first, cells[cells.length - 1], left);
            } else if (second.matches()) {
                kinds.add(second.group(1));
                CHECKS.due("the kind of " + second.group(1), cells[1], kinds.size());
                row(second, cells[cells.length - 1], left);
            }
        }
        CHECKS.due("calls that no table names", left, "[]");
        CHECKS.due("kinds", kinds, KINDS);
    }

    private static void row(Matcher call, String thrown, TreeSet<String> left) {
        String name = call.group(1);
        CHECKS.due("a table names, once, " + name, left.remove(name), true);
        int arguments = call.group(2).isEmpty() ? 0 : call.group(2).split(", ").length;
        CHECKS.due("arguments of " + name, arguments, METHODS.get(name).getParameterCount());
        List<String> said = new ArrayList<>();
        for (String part : thrown.split("; ")) {
            String exception = part.replaceFirst(":.*", "");
            if (!exception.equals("nothing")) {
                said.add(exception + "Exception");
            }
        }
        List<String> due = new ArrayList<>();
        for (Class<?> type : METHODS.get(name).getExceptionTypes()) {
            due.add(type.getSimpleName());
        }
        CHECKS.due("exceptions of " + name, said, due);
    }

    private static void codes(List<String> lines) {
        List<String> seen = new ArrayList<>();
        Pattern row = Pattern.compile("\\| `([A-Z_]+)` \\| (-\\d+) \\|.*");
        for (String line : lines) {
            Matcher matcher = row.matcher(line);
            if (matcher.matches()) {
                seen.add(matcher.group(1));
                CHECKS.due("the value of " + matcher.group(1), matcher.group(2), valueOf(matcher.group(1)));
            }
        }
        CHECKS.due("codes, of which the first that fits is answered", seen, CODES);
    }
}
