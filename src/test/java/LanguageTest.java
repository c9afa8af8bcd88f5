import java.io.IOException;
import java.lang.reflect.Field;
import java.lang.reflect.Modifier;
import java.util.ArrayList;
import java.util.HashMap;
import java.util.HashSet;
import java.util.List;
import java.util.Map;
import java.util.Set;
import java.util.TreeSet;

/** Those of the language's rules, by their numbers, that can be read from the program's text. */
public final class LanguageTest {
    private static final String[] RULED_OUT = {
        "^package ", "->", "::", "\\bfinally\\b", "\\bsynchronized\\b", "\\bassert\\b", "Exact\\(", "\\bObject\\b",
        "\\bThread\\b", "\\bRandom\\b", "\\bhashCode\\b", "\\btoString\\b", "\\bprotected\\b", "static \\{"};
    // Allowed, but under conditions that this test cannot read: the program does without.
    private static final String[] NOT_USED = {
        "^import ", "\\btry\\b", "\\bcatch\\b", "\\binstanceof\\b", "\\bvar\\b", "\\bdouble\\b", "\\bfloat\\b",
        "\\bSystem\\b", "\\bequals\\b", "\\bwhile\\b", "\\bdo\\b", "\"", "\\bnull\\b"};
    private static final String[] LIBRARY = {
        "Long.numberOfLeadingZeros", "Long.numberOfTrailingZeros", "Math.max"};
    private static final int MOST_PARAMETERS = 7, MOST_LINES = 60, MOST_DEEP = 8, MOST_CLASSES = 12, MOST_FIELDS = 20;

    private static final Checks CHECKS = new Checks();

    private final ProgramText text;
    private final Map<String, Set<String>> callsOf = new HashMap<>();

    private LanguageTest(ProgramText text) {
        this.text = text;
    }

    public static void main(String[] args) throws IOException {
        LanguageTest test = new LanguageTest(new ProgramText());
        test.ruledOut();
        test.classes();
        test.types();
        test.library();
        test.exceptions();
        test.loops();
        test.methods();
        test.depth();
        test.objects();
        CHECKS.finish("LanguageTest");
    }

    private void ruledOut() {
        for (String rule : RULED_OUT) {
            CHECKS.due("ruled out: " + rule, text.found(rule), "[]");
        }
        for (String word : NOT_USED) {
            CHECKS.due("not to be read by this test: " + word, text.found(word), "[]");
        }
    }

    private void classes() {
        int inside = PrefixRegistry.class.getDeclaredClasses().length;
        int written = 0;
        for (String line : text.lines) {
            written += line.matches(".*\\b(class|record|enum|interface) .*\\{") ? 1 : 0;
        }
        CHECKS.due("rule 2: all classes are declared members", written, inside + 1);
        CHECKS.due("rule 11: classes", written <= MOST_CLASSES, true);
    }

    private static List<Class<?>> allClasses() {
        List<Class<?>> all = new ArrayList<>(List.of(PrefixRegistry.class.getDeclaredClasses()));
        all.add(PrefixRegistry.class);
        return all;
    }

    private void types() {
        for (Class<?> owner : allClasses()) {
            int fields = 0;
            for (Field f : owner.getDeclaredFields()) {
                String name = owner.getSimpleName() + "." + f.getName();
                boolean fixed = Modifier.isStatic(f.getModifiers());
                Class<?> type = f.getType();
                boolean number = type == int.class || type == long.class || type == boolean.class;
                boolean own = type == int[].class || allClasses().contains(type);
                CHECKS.due("rule 3, 5: the type of " + name, number || own && !fixed, true);
                CHECKS.due("rule 5: static is final: " + name, !fixed || Modifier.isFinal(f.getModifiers()), true);
                fields += fixed ? 0 : 1;
            }
            CHECKS.due("rule 11: fields of " + owner, fields <= MOST_FIELDS, true);
        }
    }

    private void library() {
        TreeSet<String> seen =
            text.found("\\b(?:Math|Long|Integer|Arrays|List|ArrayList|String|StringBuilder)\\b(?:\\.\\w+)?");
        seen.removeAll(List.of(LIBRARY));
        CHECKS.due("rule 4: library beside what is known to be allowed", seen, "[]");
    }

    private void exceptions() {
        CHECKS.due("rule 6: thrown", text.found("\\bthrow .*"),
            "[throw new IllegalArgumentException();, throw new IllegalStateException();,"
            + " throw new IndexOutOfBoundsException();, throw new UnsupportedOperationException();]");
        for (ProgramText.Part part : text.parts) {
            boolean thrown = part.isConstructor() && part.body().contains("throw");
            CHECKS.due("rule 6: thrown in the constructor " + part.name(), thrown, false);
        }
    }

    private void loops() {
        for (String loop : text.found("\\bfor \\(.*")) {
            boolean counted = loop.matches("for \\(int (\\w+) = 0; \\1 <=? [\\w.]+( && .*)?; \\1\\+\\+\\) \\{");
            CHECKS.due("rule 9: " + loop + " is counted up to a bound", counted, true);
        }
    }

    private void methods() {
        int due = 0;
        for (Class<?> owner : allClasses()) {
            due += owner.getDeclaredMethods().length + owner.getDeclaredConstructors().length;
        }
        CHECKS.due("methods that are found in the text", text.parts.size(), due);
        for (ProgramText.Part part : text.parts) {
            int parameters = part.parameters().isEmpty() ? 0 : part.parameters().split(",").length;
            CHECKS.due("rule 11: parameters of " + part.name(), parameters <= MOST_PARAMETERS, true);
            CHECKS.due("rule 11: lines of " + part.name(), part.lines().size() <= MOST_LINES, true);
        }
    }

    // Methods with the same name count as one, which can only make the depth greater.
    private void depth() {
        TreeSet<String> names = new TreeSet<>();
        for (ProgramText.Part part : text.parts) {
            names.add(part.name());
        }
        for (ProgramText.Part part : text.parts) {
            Set<String> called = callsOf.computeIfAbsent(part.name(), n -> new HashSet<>());
            for (String call : ProgramText.found(part.body(), "\\b\\w+\\(")) {
                String name = call.substring(0, call.length() - 1);
                if (names.contains(name)) {
                    called.add(name);
                }
            }
        }
        for (String name : names) {
            int depth = depthOf(name, new ArrayList<>());
            CHECKS.due("rule 8, 11: calls that stand open in " + name, depth <= MOST_DEEP, true);
        }
    }

    private int depthOf(String name, List<String> open) {
        if (open.contains(name)) {
            CHECKS.due("rule 8: recursion by " + open, name, "none");
            return 0;
        }
        open.add(name);
        int deepest = 0;
        for (String called : callsOf.getOrDefault(name, Set.of())) {
            deepest = Math.max(deepest, depthOf(called, open));
        }
        open.remove(name);
        return deepest + 1;
    }

    private void objects() {
        for (ProgramText.Part part : text.parts) {
            TreeSet<String> made = ProgramText.found(part.body(), "(?<!throw )\\bnew \\w+");
            boolean fine = part.isConstructor() || made.isEmpty();
            CHECKS.due("rule 12: made outside a constructor, in " + part.name(), fine, true);
        }
    }
}
