import java.util.ArrayList;
import java.util.List;

/** Calls on one object in their order, with the answers that are due. */
final class Story {
    private final Checks checks;
    private final String name;
    private final List<Call> calls = new ArrayList<>();
    private final PrefixRegistry object = new PrefixRegistry();
    private List<String> view = null;

    /** The first calls must all be accepted: a test that begins elsewhere than it says tests nothing. */
    Story(Checks checks, String name, List<Call> first) {
        this.checks = checks;
        this.name = name;
        for (Call call : first) {
            String answer = answer(call);
            if (answer.startsWith("-") || answer.startsWith("throws.")) {
                checks.due(name + ": to begin, " + call.words(), answer, "accepted");
            }
        }
    }

    private String answer(Call call) {
        calls.add(call);
        if (calls.size() > View.MOST_CALLS) {
            throw new IllegalStateException(name + ": no answer is promised after so many calls");
        }
        return call.on(object);
    }

    Story says(Call call, Object want) {
        view = null;
        checks.due(name + ": " + call.words(), answer(call), want);
        return this;
    }

    /** The call is refused as is due, and nothing has changed. */
    Story refuses(Call call, Object want) {
        return keeps(call, want);
    }

    /** The call answers as is due, and nothing has changed. */
    Story keeps(Call call, Object want) {
        List<String> before = view == null ? View.of(calls) : view;
        checks.due(name + ": " + call.words(), answer(call), want);
        view = View.of(calls);
        checks.due(name + ": " + call.words() + " changes", View.difference(before, view), "nothing");
        return this;
    }

    Story refusesAll(Object want, Call... refused) {
        for (Call call : refused) {
            refuses(call, want);
        }
        return this;
    }

    /** The record's fields, from its prefix on. */
    Story has(int record, Object... fields) {
        for (int what = 0; what < fields.length; what++) {
            says(Calls.field(record, what), fields[what]);
        }
        return this;
    }
}
