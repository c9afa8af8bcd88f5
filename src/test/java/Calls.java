import java.util.Arrays;
import java.util.Collections;
import java.util.List;
import java.util.ArrayList;
import java.util.function.Function;

/**
 * Each call of the face as a value, and runs of calls with which many tests begin. Tests inherit
 * from it for the short names alone: nothing can be imported from a class without a package.
 */
abstract class Calls {
    static final int NONE = PrefixRegistry.NONE, TAKEN = PrefixRegistry.TAKEN, SHAPE = PrefixRegistry.SHAPE,
        FULL = PrefixRegistry.FULL, POLICY = PrefixRegistry.POLICY, NOT_GIVEN = PrefixRegistry.NOT_GIVEN,
        DEEP = PrefixRegistry.DEEP;
    static final int GIVEN = 1, RESERVED = 2, QUARANTINED = 3, RETURNED = 4;
    static final int LOW = Integer.MIN_VALUE, HIGH = Integer.MAX_VALUE;
    static final int TEN = 0x0A000000;
    static final String DONE = "done";
    static final String ARGUMENT = "throws.IllegalArgumentException", STATE = "throws.IllegalStateException",
        INDEX = "throws.IndexOutOfBoundsException", UNSUPPORTED = "throws.UnsupportedOperationException";

    private static Call call(String name, Function<PrefixRegistry, Object> body, Object... arguments) {
        String list = Arrays.toString(arguments);
        return new Call(name + "(" + list.substring(1, list.length() - 1) + ")", body);
    }

    static Call root(int prefix, int length, int holder) {
        return call("root", x -> x.root(prefix, length, holder), prefix, length, holder);
    }

    static Call ask(int record, int length, boolean room) {
        return call("ask", x -> x.ask(record, length, room), record, length, room);
    }

    static Call reserve(int record, int prefix, int length) {
        return call("reserve", x -> x.reserve(record, prefix, length), record, prefix, length);
    }

    static Call give(int record) {
        return call("give", x -> {
            x.give(record);
            return DONE;
        }, record);
    }

    static Call back(int record) {
        return call("back", x -> x.back(record), record);
    }

    static Call grow(int record) {
        return call("grow", x -> x.grow(record), record);
    }

    static Call shrink(int record, boolean upper) {
        return call("shrink", x -> x.shrink(record, upper), record, upper);
    }

    static Call transfer(int record, int holder) {
        return call("transfer", x -> x.transfer(record, holder), record, holder);
    }

    static Call policy(int level, int thousandths) {
        return call("policy", x -> {
            x.policy(level, thousandths);
            return DONE;
        }, level, thousandths);
    }

    static Call day(int n) {
        return call("day", x -> x.day(n), n);
    }

    static Call quarantine(int days) {
        return call("quarantine", x -> {
            x.quarantine(days);
            return DONE;
        }, days);
    }

    static Call holderOf(int address, int level) {
        return call("holderOf", x -> x.holderOf(address, level), address, level);
    }

    static Call field(int record, int what) {
        return call("field", x -> x.field(record, what), record, what);
    }

    static Call told(int what) {
        return call("told", x -> x.told(what), what);
    }

    static Call freeAt(int record, int length) {
        return call("freeAt", x -> x.freeAt(record, length), record, length);
    }

    static Call blocks(int record) {
        return call("blocks", x -> x.blocks(record), record);
    }

    static Call block(int record, int k, boolean length) {
        return call("block", x -> x.block(record, k, length), record, k, length);
    }

    static Call used(int record) {
        return call("used", x -> x.used(record), record);
    }

    static Call cuts(int record) {
        return call("cuts", x -> x.cuts(record), record);
    }

    static Call cut(int record, int k, boolean length) {
        return call("cut", x -> x.cut(record, k, length), record, k, length);
    }

    static Call log(int k, int what) {
        return call("log", x -> x.log(k, what), k, what);
    }

    static Call replay(int k) {
        return call("replay", x -> x.replay(k), k);
    }

    static Call same() {
        return call("same", x -> x.same());
    }

    /** Some calls, and then more of them. */
    static List<Call> then(List<Call> first, Call... more) {
        List<Call> all = new ArrayList<>(first);
        all.addAll(Arrays.asList(more));
        return all;
    }

    static List<Call> run(Call... calls) {
        return Arrays.asList(calls);
    }

    /** Record 0 alone: 10.0.0.0/8. */
    static List<Call> ten() {
        return run(root(TEN, 8, 7));
    }

    /** Records 0 to 4, one below the other: the last has level 4. */
    static List<Call> stairs() {
        return then(ten(), ask(0, 10, false), ask(1, 12, false), ask(2, 14, false), ask(3, 16, false));
    }

    /**
     * Below record 0 a record of each state with its own /16, by number and place: 1 GIVEN,
     * 2 RESERVED, 3 QUARANTINED to day 5, 4 RETURNED. Eight entries; today is 0.
     */
    static List<Call> states() {
        return then(ten(), ask(0, 16, false), reserve(0, TEN + (1 << 16), 16), ask(0, 16, false), ask(0, 16, false),
            back(4), quarantine(5), back(3));
    }

    /** The four addresses of record 0 are used by records 1 (two of them), 2 and 3. */
    static List<Call> filled() {
        return run(root(LOW - 4, 30, 1), ask(0, 31, false), ask(0, 32, false), ask(0, 32, false));
    }

    /** The stairs, a reserved /16 at the end of record 0 (record 5), and /32 ones up to the count. */
    static List<Call> crowd(int records) {
        List<Call> all = then(stairs(), reserve(0, 0x0AFF0000, 16));
        all.addAll(Collections.nCopies(records - 6, ask(0, 32, false)));
        return all;
    }

    /** The states, record 5 that could grow, and days that change nothing up to the count. */
    static List<Call> written(int entries) {
        List<Call> all = then(states(), ask(0, 16, true));
        all.addAll(Collections.nCopies(entries - 9, day(0)));
        return all;
    }
}
