import java.util.ArrayList;
import java.util.List;

/**
 * What can be seen after a run of calls: every record and entry, the second registry, and of the
 * first records the blocks and cuts. An object is looked at only as long as the document
 * promises its answers: then the run is made anew, and the looking goes on.
 */
final class View extends Calls {
    static final int MOST_CALLS = 512;
    private static final int LOOKED_INTO = 8;
    private static final int MOST_PARTS = 70;

    private final List<Call> calls;
    private final List<String> lines = new ArrayList<>();
    private PrefixRegistry object;
    private int left = 0;

    private View(List<Call> calls) {
        this.calls = calls;
    }

    static List<String> of(List<Call> calls) {
        View view = new View(calls);
        int records = view.look(told(0));
        view.look(told(1));
        view.look(told(2));
        int entries = view.look(told(3));
        for (int r = 0; r < records; r++) {
            view.lookAt(r);
        }
        for (int k = 0; k < entries; k++) {
            view.lookAtEntry(k);
        }
        view.lookAtSecond(entries);
        return view.lines;
    }

    /** The first line in which two views differ; "nothing" if there is none. */
    static String difference(List<String> one, List<String> other) {
        for (int i = 0; i < one.size() && i < other.size(); i++) {
            if (!one.get(i).equals(other.get(i))) {
                return one.get(i) + " / " + other.get(i);
            }
        }
        return one.size() == other.size() ? "nothing" : "how much there is";
    }

    private void lookAt(int record) {
        for (int what = 1; what < 7; what++) {
            look(field(record, what));
        }
        int prefix = look(field(record, 0));
        int level = look(field(record, 3));
        int length = look(field(record, 1));
        look(holderOf(prefix, level));
        look(holderOf((int) (prefix + (1L << (32 - length)) - 1), level));
        look(used(record));
        look(freeAt(record, 32));
        look(freeAt(record, Math.min(32, length + 1)));
        int blocks = look(blocks(record));
        int cuts = look(cuts(record));
        for (int k = 0; k < blocks && k < MOST_PARTS && record < LOOKED_INTO; k++) {
            look(block(record, k, false));
            look(block(record, k, true));
        }
        for (int k = 0; k < cuts && k < MOST_PARTS && record < LOOKED_INTO; k++) {
            look(cut(record, k, false));
            look(cut(record, k, true));
        }
    }

    private void lookAtEntry(int entry) {
        for (int what = 0; what < 4; what++) {
            look(log(entry, what));
        }
    }

    // Policies cannot be looked at: they show in whether the log builds the same registry.
    private void lookAtSecond(int entries) {
        left = left < 3 ? 0 : left;
        look(same());
        look(replay(entries));
        look(same());
    }

    private int look(Call call) {
        if (left == 0) {
            begin();
        }
        left--;
        String answer = call.on(object);
        lines.add(call.words() + " = " + answer);
        return answer.matches("-?[0-9]{1,10}") ? (int) Long.parseLong(answer) : 0;
    }

    private void begin() {
        left = MOST_CALLS - calls.size();
        if (left < 3) {
            throw new IllegalStateException("the run is too long to be looked at");
        }
        object = new PrefixRegistry();
        for (Call call : calls) {
            call.on(object);
        }
    }
}
