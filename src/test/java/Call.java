import java.util.function.Function;

/** One call of the face: its words, and how it is made on an object. */
record Call(String words, Function<PrefixRegistry, Object> body) {
    String on(PrefixRegistry x) {
        return Checks.outcome(() -> body.apply(x));
    }
}
