/**
 * Hands out prefixes of 32-bit addresses in levels, one below the other, and keeps a log from
 * which all is built again. What each call promises is told by the project's document.
 */
public final class PrefixRegistry {
    public static final int NONE = -1, TAKEN = -1, SHAPE = -2, FULL = -3, POLICY = -4, NOT_GIVEN = -5, DEEP = -6;

    // No code fits: all codes are below 0.
    private static final int FINE = 0;

    private static final int GIVEN = 1, RESERVED = 2, QUARANTINED = 3, RETURNED = 4;

    private static final int KIND_ROOT = 1, KIND_ASK = 2, KIND_RESERVE = 3, KIND_GIVE = 4, KIND_BACK = 5,
        KIND_GROW = 6, KIND_SHRINK = 7, KIND_TRANSFER = 8, KIND_POLICY = 9, KIND_DAY = 10, KIND_QUARANTINE = 11;

    private static final int BITS = 32;

    // Addresses are counted as longs, since there are 2^32 of them and none comes before 0.
    private static final long LAST_ADDRESS = 0xFFFFFFFFL;

    private static final int MOST_RECORDS = 200;
    private static final int MOST_ENTRIES = 300;
    private static final int PARTS_OF_ENTRY = 4;
    private static final int FACTS = 7;
    private static final int DEEPEST_LEVEL = 4;
    private static final int POLICY_LEVELS = 4;
    private static final int WHOLE_POLICY = 1000;
    private static final int LAST_HOLDER = 9999;
    private static final int LAST_DAY = 100000;
    private static final int MOST_QUARANTINE_DAYS = 1000;

    // Reverse zones are cut at every fourth bit.
    private static final int BITS_OF_CUT = 4;

    // Far above the blocks that a record can have (its 200 gaps have some 60 each at most).
    private static final int MOST_BLOCKS = 1000000;

    private final Ledger here;
    private final Ledger second;
    private final Journal journal;

    public PrefixRegistry() {
        here = new Ledger();
        second = new Ledger();
        journal = new Journal();
    }

    public int root(int prefix, int length, int holder)
            throws IllegalArgumentException, IllegalStateException, UnsupportedOperationException {
        if (length < 0 || length >= BITS || !isAligned(prefix, length) || !isHolder(holder)) {
            throw new IllegalArgumentException();
        }
        if (here.topBlockMeets(prefix, length)) {
            throw new IllegalStateException();
        }
        if (here.records.areFull()) {
            throw new UnsupportedOperationException();
        }
        return accept(KIND_ROOT, prefix, length, holder);
    }

    public int ask(int record, int length, boolean room) throws UnsupportedOperationException {
        int code = here.codeForAsking(record, length);
        return code == FINE ? accept(KIND_ASK, record, length, asNumber(room)) : code;
    }

    public int reserve(int record, int prefix, int length) throws UnsupportedOperationException {
        int code = here.codeForReserving(record, prefix, length);
        return code == FINE ? accept(KIND_RESERVE, record, prefix, length) : code;
    }

    public void give(int record)
            throws IndexOutOfBoundsException, IllegalStateException, UnsupportedOperationException {
        refuseUnknown(record);
        if (here.records.state[record] != RESERVED) {
            throw new IllegalStateException();
        }
        accept(KIND_GIVE, record, 0, 0);
    }

    public int back(int record)
            throws IndexOutOfBoundsException, IllegalStateException, UnsupportedOperationException {
        refuseUnknown(record);
        if (!here.mayComeBack(record)) {
            throw new IllegalStateException();
        }
        return accept(KIND_BACK, record, 0, 0);
    }

    public int grow(int record) throws UnsupportedOperationException {
        int code = here.codeForGrowing(record);
        return code == FINE ? accept(KIND_GROW, record, 0, 0) : code;
    }

    public int shrink(int record, boolean upper) throws UnsupportedOperationException {
        int code = here.codeForHalving(record, upper);
        return code == FINE ? accept(KIND_SHRINK, record, asNumber(upper), 0) : code;
    }

    public int transfer(int record, int holder)
            throws IndexOutOfBoundsException, IllegalArgumentException, IllegalStateException,
            UnsupportedOperationException {
        refuseUnknown(record);
        if (!isHolder(holder)) {
            throw new IllegalArgumentException();
        }
        if (!here.records.isLive(record)) {
            throw new IllegalStateException();
        }
        return accept(KIND_TRANSFER, record, holder, 0);
    }

    public void policy(int level, int thousandths) throws IllegalArgumentException, UnsupportedOperationException {
        if (level < 0 || level >= POLICY_LEVELS || thousandths < 0 || thousandths > WHOLE_POLICY) {
            throw new IllegalArgumentException();
        }
        accept(KIND_POLICY, level, thousandths, 0);
    }

    public int day(int n) throws IllegalArgumentException, UnsupportedOperationException {
        if (n < here.today || n > LAST_DAY) {
            throw new IllegalArgumentException();
        }
        return accept(KIND_DAY, n, 0, 0);
    }

    public void quarantine(int days) throws IllegalArgumentException, UnsupportedOperationException {
        if (days < 0 || days > MOST_QUARANTINE_DAYS) {
            throw new IllegalArgumentException();
        }
        accept(KIND_QUARANTINE, days, 0, 0);
    }

    public int holderOf(int address, int level) {
        return here.records.givenWith(address, level);
    }

    public int field(int record, int what) throws IndexOutOfBoundsException, IllegalArgumentException {
        refuseUnknown(record);
        if (what < 0 || what >= FACTS) {
            throw new IllegalArgumentException();
        }
        return here.records.fact(record, what);
    }

    public int told(int what) {
        switch (what) {
            case 0: return here.records.count;
            case 1: return here.today;
            case 2: return here.quarantineDays;
            case 3: return journal.count;
            default: return NONE;
        }
    }

    public long freeAt(int record, int length) throws IndexOutOfBoundsException, IllegalArgumentException {
        refuseUnknown(record);
        if (length < 0 || length > BITS) {
            throw new IllegalArgumentException();
        }
        return here.countFree(record, length);
    }

    public int blocks(int record) throws IndexOutOfBoundsException {
        refuseUnknown(record);
        return here.countBlocks(record);
    }

    public int block(int record, int k, boolean length) throws IndexOutOfBoundsException {
        refuseUnknown(record);
        if (k < 0 || !here.walk.goTo(record, k)) {
            throw new IndexOutOfBoundsException();
        }
        return length ? here.walk.length : (int) here.walk.start;
    }

    public long used(int record) throws IndexOutOfBoundsException {
        refuseUnknown(record);
        return here.records.usedBelow(record);
    }

    public int cuts(int record) throws IndexOutOfBoundsException {
        refuseUnknown(record);
        return here.records.countCuts(record);
    }

    public int cut(int record, int k, boolean length) throws IndexOutOfBoundsException {
        refuseUnknown(record);
        if (k < 0 || k >= here.records.countCuts(record)) {
            throw new IndexOutOfBoundsException();
        }
        return here.records.cutAt(record, k, length);
    }

    public int log(int k, int what) throws IndexOutOfBoundsException, IllegalArgumentException {
        if (k < 0 || k >= journal.count) {
            throw new IndexOutOfBoundsException();
        }
        if (what < 0 || what >= PARTS_OF_ENTRY) {
            throw new IllegalArgumentException();
        }
        return journal.part(k, what);
    }

    public int replay(int k) throws IllegalArgumentException {
        if (k < 0 || k > journal.count) {
            throw new IllegalArgumentException();
        }
        second.forgetAll();
        for (int e = 0; e < k; e++) {
            second.carryOut(journal.part(e, 0), journal.part(e, 1), journal.part(e, 2), journal.part(e, 3));
        }
        return second.records.count;
    }

    public boolean same() {
        return here.isLike(second);
    }

    private void refuseUnknown(int record) {
        if (!here.records.has(record)) {
            throw new IndexOutOfBoundsException();
        }
    }

    // A full log is looked at last of all, so that codes and other exceptions go before it.
    private int accept(int kind, int a, int b, int c) {
        if (journal.isFull()) {
            throw new UnsupportedOperationException();
        }
        journal.write(kind, a, b, c);
        return here.carryOut(kind, a, b, c);
    }

    private static int asNumber(boolean b) {
        return b ? 1 : 0;
    }

    private static boolean isHolder(int holder) {
        return holder >= 0 && holder <= LAST_HOLDER;
    }

    private static long startOf(int prefix) {
        return prefix & LAST_ADDRESS;
    }

    private static long sizeOf(int length) {
        return 1L << (BITS - length);
    }

    private static boolean isAligned(int prefix, int length) {
        return (startOf(prefix) & (sizeOf(length) - 1)) == 0;
    }

    private static int siblingOf(int prefix, int length) {
        return prefix ^ (int) sizeOf(length);
    }

    private static int lengthOfCuts(int length) {
        return (length + BITS_OF_CUT - 1) / BITS_OF_CUT * BITS_OF_CUT;
    }

    /** The calls that were accepted. */
    private static final class Journal {
        private final int[] parts;
        private int count;

        Journal() {
            parts = new int[MOST_ENTRIES * PARTS_OF_ENTRY];
            count = 0;
        }

        boolean isFull() {
            return count >= MOST_ENTRIES;
        }

        void write(int kind, int a, int b, int c) {
            int at = count * PARTS_OF_ENTRY;
            parts[at] = kind;
            parts[at + 1] = a;
            parts[at + 2] = b;
            parts[at + 3] = c;
            count++;
        }

        int part(int entry, int what) {
            return parts[entry * PARTS_OF_ENTRY + what];
        }
    }

    /** All records, each with a chain of its live children by address. */
    private static final class Records {
        private final int[] prefix;
        private final int[] length;
        private final int[] parent;
        private final int[] level;
        private final int[] holder;
        private final int[] state;
        private final int[] end;
        private final int[] firstChild;
        private final int[] nextChild;
        private int count;

        Records() {
            prefix = new int[MOST_RECORDS];
            length = new int[MOST_RECORDS];
            parent = new int[MOST_RECORDS];
            level = new int[MOST_RECORDS];
            holder = new int[MOST_RECORDS];
            state = new int[MOST_RECORDS];
            end = new int[MOST_RECORDS];
            firstChild = new int[MOST_RECORDS];
            nextChild = new int[MOST_RECORDS];
            count = 0;
        }

        boolean areFull() {
            return count >= MOST_RECORDS;
        }

        boolean has(int record) {
            return record >= 0 && record < count;
        }

        boolean isGiven(int record) {
            return has(record) && state[record] == GIVEN;
        }

        boolean isLive(int record) {
            return state[record] != RETURNED;
        }

        boolean isTop(int record) {
            return parent[record] == NONE;
        }

        long start(int record) {
            return startOf(prefix[record]);
        }

        long size(int record) {
            return sizeOf(length[record]);
        }

        int fact(int record, int what) {
            switch (what) {
                case 0: return prefix[record];
                case 1: return length[record];
                case 2: return parent[record];
                case 3: return level[record];
                case 4: return holder[record];
                case 5: return state[record];
                default: return end[record];
            }
        }

        int addTop(int itsPrefix, int itsLength, int itsHolder) {
            int made = addRow(itsPrefix, itsLength, GIVEN);
            parent[made] = NONE;
            level[made] = 0;
            holder[made] = itsHolder;
            return made;
        }

        int addBelow(int above, int itsPrefix, int itsLength, int itsState) {
            int made = addRow(itsPrefix, itsLength, itsState);
            parent[made] = above;
            level[made] = level[above] + 1;
            holder[made] = holder[above];
            chain(made);
            return made;
        }

        // Rows are used again after a replay, so nothing of an older record may stay.
        private int addRow(int itsPrefix, int itsLength, int itsState) {
            int made = count;
            prefix[made] = itsPrefix;
            length[made] = itsLength;
            state[made] = itsState;
            end[made] = 0;
            firstChild[made] = NONE;
            nextChild[made] = NONE;
            count++;
            return made;
        }

        void markReturned(int record) {
            state[record] = RETURNED;
            if (!isTop(record)) {
                unchain(record);
            }
        }

        // Growing and halving keep the order of the chain, as siblings never overlap.
        private void chain(int record) {
            int before = NONE;
            int after = firstChild[parent[record]];
            for (int n = 0; n < MOST_RECORDS && after != NONE && start(after) < start(record); n++) {
                before = after;
                after = nextChild[after];
            }
            nextChild[record] = after;
            putBehind(before, parent[record], record);
        }

        private void unchain(int record) {
            int before = NONE;
            int at = firstChild[parent[record]];
            for (int n = 0; n < MOST_RECORDS && at != NONE && at != record; n++) {
                before = at;
                at = nextChild[at];
            }
            putBehind(before, parent[record], nextChild[record]);
        }

        private void putBehind(int before, int above, int record) {
            if (before == NONE) {
                firstChild[above] = record;
            } else {
                nextChild[before] = record;
            }
        }

        boolean meets(int record, int otherPrefix, int otherLength) {
            long otherStart = startOf(otherPrefix);
            return start(record) < otherStart + sizeOf(otherLength) && otherStart < start(record) + size(record);
        }

        boolean isFree(int above, int itsPrefix, int itsLength) {
            int child = firstChild[above];
            for (int n = 0; n < MOST_RECORDS && child != NONE; n++) {
                if (meets(child, itsPrefix, itsLength)) {
                    return false;
                }
                child = nextChild[child];
            }
            return true;
        }

        long usedBelow(int record) {
            long sum = 0;
            int child = firstChild[record];
            for (int n = 0; n < MOST_RECORDS && child != NONE; n++) {
                sum += size(child);
                child = nextChild[child];
            }
            return sum;
        }

        int givenWith(int address, int itsLevel) {
            for (int r = 0; r < count; r++) {
                if (state[r] == GIVEN && level[r] == itsLevel && meets(r, address, BITS)) {
                    return r;
                }
            }
            return NONE;
        }

        boolean isAtOrBelow(int record, int above) {
            int at = record;
            for (int n = 0; n <= DEEPEST_LEVEL && at != NONE; n++) {
                if (at == above) {
                    return true;
                }
                at = parent[at];
            }
            return false;
        }

        private int cutsOf(int child) {
            return state[child] == GIVEN ? 1 << (lengthOfCuts(length[child]) - length[child]) : 0;
        }

        int countCuts(int record) {
            int sum = 0;
            int child = firstChild[record];
            for (int n = 0; n < MOST_RECORDS && child != NONE; n++) {
                sum += cutsOf(child);
                child = nextChild[child];
            }
            return sum;
        }

        int cutAt(int record, int k, boolean itsLength) {
            int left = k;
            int child = firstChild[record];
            for (int n = 0; n < MOST_RECORDS && child != NONE; n++) {
                if (left < cutsOf(child)) {
                    int cutLength = lengthOfCuts(length[child]);
                    return itsLength ? cutLength : (int) (start(child) + left * sizeOf(cutLength));
                }
                left -= cutsOf(child);
                child = nextChild[child];
            }
            return NONE;
        }

        boolean areLike(Records others) {
            if (count != others.count) {
                return false;
            }
            for (int r = 0; r < count; r++) {
                for (int what = 0; what < FACTS; what++) {
                    if (fact(r, what) != others.fact(r, what)) {
                        return false;
                    }
                }
            }
            return true;
        }
    }

    /** Goes over the blocks of a record by address; made once and used again, to keep calls small. */
    private static final class BlockWalk {
        private final Records records;
        private long at;
        private long end;
        private int child;
        private long start;
        private int length;

        BlockWalk(Records over) {
            records = over;
            at = 0;
            end = 0;
            child = NONE;
            start = 0;
            length = 0;
        }

        void begin(int record) {
            at = records.start(record);
            end = at + records.size(record);
            child = records.firstChild[record];
        }

        // The largest prefix that begins where the last one ended is a block: a larger free one
        // round it would have been met before.
        boolean step() {
            for (int n = 0; n < MOST_RECORDS && child != NONE && records.start(child) == at; n++) {
                at += records.size(child);
                child = records.nextChild[child];
            }
            if (at >= end) {
                return false;
            }
            long limit = child == NONE ? end : records.start(child);
            int lengthByStart = BITS - Long.numberOfTrailingZeros(at);
            int lengthByRoom = Long.numberOfLeadingZeros(limit - at) - (BITS - 1);
            start = at;
            length = Math.max(lengthByStart, lengthByRoom);
            at += sizeOf(length);
            return true;
        }

        boolean goTo(int record, int k) {
            begin(record);
            for (int n = 0; n < MOST_BLOCKS && step(); n++) {
                if (n == k) {
                    return true;
                }
            }
            return false;
        }
    }

    /** A registry without its log: the records, the days and the policies. */
    private static final class Ledger {
        private final Records records;
        private final BlockWalk walk;
        private final int[] policies;
        private int today;
        private int quarantineDays;

        Ledger() {
            Records made = new Records();
            records = made;
            walk = new BlockWalk(made);
            policies = new int[POLICY_LEVELS];
            today = 0;
            quarantineDays = 0;
        }

        void forgetAll() {
            records.count = 0;
            today = 0;
            quarantineDays = 0;
            for (int i = 0; i < POLICY_LEVELS; i++) {
                policies[i] = 0;
            }
        }

        int codeForAsking(int record, int length) {
            if (!records.isGiven(record)) {
                return NOT_GIVEN;
            }
            if (!isLengthBelow(record, length)) {
                return SHAPE;
            }
            int code = codeForOneMore(record);
            if (code != FINE) {
                return code;
            }
            if (!isPolicyMet(record)) {
                return POLICY;
            }
            return placeFor(record, length, false) == NONE ? TAKEN : FINE;
        }

        int codeForReserving(int record, int prefix, int length) {
            if (!records.isGiven(record)) {
                return NOT_GIVEN;
            }
            // A prefix that is longer than the record's is either inside it or has none of its addresses.
            if (!isLengthBelow(record, length) || !isAligned(prefix, length)
                    || !records.meets(record, prefix, length)) {
                return SHAPE;
            }
            int code = codeForOneMore(record);
            if (code != FINE) {
                return code;
            }
            return records.isFree(record, prefix, length) ? FINE : TAKEN;
        }

        private boolean isLengthBelow(int record, int length) {
            return length > records.length[record] && length <= BITS;
        }

        private int codeForOneMore(int record) {
            if (records.level[record] >= DEEPEST_LEVEL) {
                return DEEP;
            }
            return records.areFull() ? FULL : FINE;
        }

        int codeForGrowing(int record) {
            if (!isGivenBelow(record)) {
                return NOT_GIVEN;
            }
            int above = records.parent[record];
            int length = records.length[record];
            if (length <= records.length[above]) {
                return SHAPE;
            }
            int sibling = siblingOf(records.prefix[record], length);
            return records.isFree(above, sibling, length) ? FINE : TAKEN;
        }

        int codeForHalving(int record, boolean upper) {
            if (!isGivenBelow(record)) {
                return NOT_GIVEN;
            }
            if (records.length[record] >= BITS) {
                return SHAPE;
            }
            int halfLength = records.length[record] + 1;
            return records.isFree(record, halfOf(record, !upper), halfLength) ? FINE : TAKEN;
        }

        private boolean isGivenBelow(int record) {
            return records.isGiven(record) && !records.isTop(record);
        }

        private int halfOf(int record, boolean upper) {
            int prefix = records.prefix[record];
            return upper ? siblingOf(prefix, records.length[record] + 1) : prefix;
        }

        boolean mayComeBack(int record) {
            int state = records.state[record];
            return (state == GIVEN || state == RESERVED) && records.firstChild[record] == NONE;
        }

        boolean topBlockMeets(int prefix, int length) {
            for (int r = 0; r < records.count; r++) {
                if (records.isTop(r) && records.isLive(r) && records.meets(r, prefix, length)) {
                    return true;
                }
            }
            return false;
        }

        private boolean isPolicyMet(int record) {
            int policy = policies[records.level[record]];
            int child = records.firstChild[record];
            for (int n = 0; n < MOST_RECORDS && child != NONE; n++) {
                boolean counts = records.state[child] == GIVEN && records.holder[child] == records.holder[record];
                if (counts && records.usedBelow(child) * WHOLE_POLICY < records.size(child) * policy) {
                    return false;
                }
                child = records.nextChild[child];
            }
            return true;
        }

        // A chain of free siblings goes up just to the block, so the most room is in the largest one.
        private long placeFor(int record, int length, boolean room) {
            long place = NONE;
            int best = NONE;
            walk.begin(record);
            for (int n = 0; n < MOST_BLOCKS && walk.step(); n++) {
                boolean better = place == NONE || (room ? walk.length < best : walk.length > best);
                if (walk.length <= length && better) {
                    place = walk.start;
                    best = walk.length;
                }
            }
            return place;
        }

        // The caller has seen that the call is accepted; a log holds none but such calls.
        int carryOut(int kind, int a, int b, int c) {
            switch (kind) {
                case KIND_ROOT: return records.addTop(a, b, c);
                case KIND_ASK: return records.addBelow(a, (int) placeFor(a, b, c == 1), b, GIVEN);
                case KIND_RESERVE: return records.addBelow(a, b, c, RESERVED);
                case KIND_GIVE: return handOut(a);
                case KIND_BACK: return takeBack(a);
                case KIND_GROW: return doubled(a);
                case KIND_SHRINK: return halved(a, b == 1);
                case KIND_TRANSFER: return handOver(a, b);
                case KIND_POLICY: return setPolicy(a, b);
                case KIND_DAY: return beginDay(a);
                default: return setQuarantine(a);
            }
        }

        private int handOut(int record) {
            records.state[record] = GIVEN;
            return FINE;
        }

        private int takeBack(int record) {
            records.end[record] = today + quarantineDays;
            if (quarantineDays > 0) {
                records.state[record] = QUARANTINED;
            } else {
                records.markReturned(record);
            }
            return records.end[record];
        }

        private int doubled(int record) {
            int prefix = records.prefix[record];
            records.prefix[record] = prefix & siblingOf(prefix, records.length[record]);
            records.length[record]--;
            return records.length[record];
        }

        private int halved(int record, boolean upper) {
            records.prefix[record] = halfOf(record, upper);
            records.length[record]++;
            return records.length[record];
        }

        private int handOver(int record, int holder) {
            int sum = 0;
            for (int r = 0; r < records.count; r++) {
                if (records.isLive(r) && records.isAtOrBelow(r, record)) {
                    records.holder[r] = holder;
                    sum++;
                }
            }
            return sum;
        }

        private int setPolicy(int level, int thousandths) {
            policies[level] = thousandths;
            return FINE;
        }

        private int beginDay(int n) {
            today = n;
            int sum = 0;
            for (int r = 0; r < records.count; r++) {
                if (records.state[r] == QUARANTINED && records.end[r] <= n) {
                    records.markReturned(r);
                    sum++;
                }
            }
            return sum;
        }

        private int setQuarantine(int days) {
            quarantineDays = days;
            return FINE;
        }

        int countBlocks(int record) {
            int sum = 0;
            walk.begin(record);
            for (int n = 0; n < MOST_BLOCKS && walk.step(); n++) {
                sum++;
            }
            return sum;
        }

        long countFree(int record, int length) {
            long sum = 0;
            walk.begin(record);
            for (int n = 0; n < MOST_BLOCKS && walk.step(); n++) {
                if (walk.length <= length) {
                    sum += 1L << (length - walk.length);
                }
            }
            return sum;
        }

        boolean isLike(Ledger other) {
            for (int i = 0; i < POLICY_LEVELS; i++) {
                if (policies[i] != other.policies[i]) {
                    return false;
                }
            }
            return today == other.today && quarantineDays == other.quarantineDays && records.areLike(other.records);
        }
    }
}
