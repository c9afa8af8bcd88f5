import java.util.List;

/** What the tests of the document's boundaries share: each sentence is said in its words, and tested. */
abstract class Edges extends Calls {
    static final Checks CHECKS = new Checks();
    private static String words = "";
    private static int seenBefore = 0;

    /** From here on the checks are those of this sentence. */
    static void sentence(String section, String said) {
        mustHaveChecks();
        words = section + ", " + said;
        seenBefore = CHECKS.seen();
    }

    static void finish(String name) {
        mustHaveChecks();
        CHECKS.finish(name);
    }

    private static void mustHaveChecks() {
        if (!words.isEmpty() && CHECKS.seen() == seenBefore) {
            CHECKS.due("checks of: " + words, "none", "some");
        }
    }

    static Story on(Call... first) {
        return on(run(first));
    }

    static Story on(List<Call> first, Call... more) {
        return new Story(CHECKS, words, then(first, more));
    }

    /** How many addresses a prefix has; 0 for all of them, as an int wraps around. */
    static int sizeOf(int length) {
        return (int) (1L << (32 - length));
    }
}
