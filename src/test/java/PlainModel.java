import java.util.ArrayList;
import java.util.List;

/**
 * The document's words, written down as literally as they can be run: no chains of children, no
 * clever walk. The tests hold the program against it.
 */
public final class PlainModel {
    private static final int GIVEN = 1, RESERVED = 2, QUARANTINED = 3, RETURNED = 4;
    private static final long ENUMERATED_AT_MOST = 4096;

    private static final class Row {
        long prefix;
        int length, parent, level, holder, state, end;

        String text() {
            return prefix + " " + length + " " + parent + " " + level + " " + holder + " " + state + " " + end;
        }
    }

    private final List<Row> rows = new ArrayList<>();
    private final List<int[]> log = new ArrayList<>();
    private final int[] policies = new int[4];
    private int today = 0;
    private int days = 0;
    private PlainModel second = null;

    private static long unsigned(int prefix) {
        return prefix & 0xFFFFFFFFL;
    }

    private static long bits(long prefix, int length) {
        return prefix >>> (32 - length);
    }

    private static boolean inside(long p, int n, long q, int m) {
        return n >= m && bits(p, m) == bits(q, m);
    }

    private static boolean share(long p, int n, long q, int m) {
        return inside(p, n, q, m) || inside(q, m, p, n);
    }

    private static boolean aligned(long p, int n) {
        return bits(p, n) << (32 - n) == p;
    }

    private static long sibling(long p, int n) {
        return p ^ (1L << (32 - n));
    }

    private boolean exists(int record) {
        return record >= 0 && record < rows.size();
    }

    private boolean given(int record) {
        return exists(record) && rows.get(record).state == GIVEN;
    }

    private List<Row> liveChildren(int record) {
        List<Row> found = new ArrayList<>();
        for (Row r : rows) {
            if (r.parent == record && r.state != RETURNED) {
                found.add(r);
            }
        }
        return found;
    }

    private boolean free(int record, long p, int n) {
        for (Row r : liveChildren(record)) {
            if (share(p, n, r.prefix, r.length)) {
                return false;
            }
        }
        return true;
    }

    private boolean wholeUsed(int record, long p, int n) {
        for (Row r : liveChildren(record)) {
            if (inside(p, n, r.prefix, r.length)) {
                return true;
            }
        }
        return false;
    }

    private List<long[]> blockList(int record) {
        List<long[]> found = new ArrayList<>();
        Row r = rows.get(record);
        collect(record, r.prefix, r.length, found);
        return found;
    }

    private void collect(int record, long p, int n, List<long[]> found) {
        if (free(record, p, n)) {
            found.add(new long[] {p, n});
        } else if (!wholeUsed(record, p, n)) {
            collect(record, p, n + 1, found);
            collect(record, sibling(p, n + 1), n + 1, found);
        }
    }

    private List<Long> candidates(int record, int length) {
        List<Long> found = new ArrayList<>();
        Row r = rows.get(record);
        if (1L << (length - r.length) <= ENUMERATED_AT_MOST) {
            long size = 1L << (32 - length);
            for (long p = r.prefix; p < r.prefix + (1L << (32 - r.length)); p += size) {
                if (free(record, p, length)) {
                    found.add(p);
                }
            }
        } else {
            for (long[] b : blockList(record)) {
                if (b[1] <= length) {
                    found.add(b[0]);
                }
            }
        }
        return found;
    }

    private int chain(int record, long p, int n) {
        int often = 0;
        Row r = rows.get(record);
        long at = p;
        for (int m = n; m > 0; m--) {
            long s = sibling(at, m);
            if (!inside(s, m, r.prefix, r.length) || !free(record, s, m)) {
                break;
            }
            often++;
            at = Math.min(at, s);
        }
        return often;
    }

    private long place(int record, int length, boolean room) {
        long found = -1;
        long best = -1;
        if (room) {
            for (long p : candidates(record, length)) {
                int c = chain(record, p, length);
                if (c > best) {
                    best = c;
                    found = p;
                }
            }
        } else {
            for (long[] b : blockList(record)) {
                if (b[1] <= length && b[1] > best) {
                    best = b[1];
                    found = b[0];
                }
            }
        }
        return found;
    }

    private boolean met(int record) {
        Row above = rows.get(record);
        for (int c = 0; c < rows.size(); c++) {
            Row r = rows.get(c);
            if (r.parent == record && r.state == GIVEN && r.holder == above.holder
                    && used(c) * 1000 < (1L << (32 - r.length)) * policies[above.level]) {
                return false;
            }
        }
        return true;
    }

    private void note(int kind, int a, int b, int c) {
        if (log.size() == 300) {
            throw new UnsupportedOperationException();
        }
        log.add(new int[] {kind, a, b, c});
    }

    private int add(long p, int n, int parent, int state, int holder) {
        Row r = new Row();
        r.prefix = p;
        r.length = n;
        r.parent = parent;
        r.level = parent < 0 ? 0 : rows.get(parent).level + 1;
        r.holder = holder;
        r.state = state;
        rows.add(r);
        return rows.size() - 1;
    }

    private void known(int record) {
        if (!exists(record)) {
            throw new IndexOutOfBoundsException();
        }
    }

    private static void argument(boolean fine) {
        if (!fine) {
            throw new IllegalArgumentException();
        }
    }

    private static void state(boolean fine) {
        if (!fine) {
            throw new IllegalStateException();
        }
    }

    public int root(int prefix, int length, int holder) {
        argument(length >= 0 && length <= 31 && aligned(unsigned(prefix), length) && holder >= 0 && holder <= 9999);
        for (Row r : rows) {
            state(r.parent >= 0 || r.state == RETURNED || !share(r.prefix, r.length, unsigned(prefix), length));
        }
        if (rows.size() == 200) {
            throw new UnsupportedOperationException();
        }
        note(1, prefix, length, holder);
        return add(unsigned(prefix), length, -1, GIVEN, holder);
    }

    public int ask(int record, int length, boolean room) {
        if (!given(record)) {
            return -5;
        }
        Row above = rows.get(record);
        if (length <= above.length || length > 32) {
            return -2;
        }
        if (above.level == 4) {
            return -6;
        }
        if (rows.size() == 200) {
            return -3;
        }
        if (!met(record)) {
            return -4;
        }
        long p = place(record, length, room);
        if (p < 0) {
            return -1;
        }
        note(2, record, length, room ? 1 : 0);
        return add(p, length, record, GIVEN, above.holder);
    }

    public int reserve(int record, int prefix, int length) {
        if (!given(record)) {
            return -5;
        }
        Row above = rows.get(record);
        long p = unsigned(prefix);
        if (length <= above.length || length > 32 || !aligned(p, length)
                || !inside(p, length, above.prefix, above.length)) {
            return -2;
        }
        if (above.level == 4) {
            return -6;
        }
        if (rows.size() == 200) {
            return -3;
        }
        if (!free(record, p, length)) {
            return -1;
        }
        note(3, record, prefix, length);
        return add(p, length, record, RESERVED, above.holder);
    }

    public void give(int record) {
        known(record);
        state(rows.get(record).state == RESERVED);
        note(4, record, 0, 0);
        rows.get(record).state = GIVEN;
    }

    public int back(int record) {
        known(record);
        Row r = rows.get(record);
        state((r.state == GIVEN || r.state == RESERVED) && liveChildren(record).isEmpty());
        note(5, record, 0, 0);
        r.state = days == 0 ? RETURNED : QUARANTINED;
        r.end = today + days;
        return r.end;
    }

    public int grow(int record) {
        if (!given(record) || rows.get(record).parent < 0) {
            return -5;
        }
        Row r = rows.get(record);
        if (r.length == rows.get(r.parent).length) {
            return -2;
        }
        if (!free(r.parent, sibling(r.prefix, r.length), r.length)) {
            return -1;
        }
        note(6, record, 0, 0);
        r.prefix = Math.min(r.prefix, sibling(r.prefix, r.length));
        r.length--;
        return r.length;
    }

    public int shrink(int record, boolean upper) {
        if (!given(record) || rows.get(record).parent < 0) {
            return -5;
        }
        Row r = rows.get(record);
        if (r.length == 32) {
            return -2;
        }
        long high = sibling(r.prefix, r.length + 1);
        if (!free(record, upper ? r.prefix : high, r.length + 1)) {
            return -1;
        }
        note(7, record, upper ? 1 : 0, 0);
        r.prefix = upper ? high : r.prefix;
        r.length++;
        return r.length;
    }

    private boolean descends(Row r, int record) {
        return r.parent >= 0 && (r.parent == record || descends(rows.get(r.parent), record));
    }

    public int transfer(int record, int holder) {
        known(record);
        argument(holder >= 0 && holder <= 9999);
        state(rows.get(record).state != RETURNED);
        note(8, record, holder, 0);
        int many = 0;
        for (int i = 0; i < rows.size(); i++) {
            Row r = rows.get(i);
            if (i == record || (r.state != RETURNED && descends(r, record))) {
                r.holder = holder;
                many++;
            }
        }
        return many;
    }

    public void policy(int level, int thousandths) {
        argument(level >= 0 && level <= 3 && thousandths >= 0 && thousandths <= 1000);
        note(9, level, thousandths, 0);
        policies[level] = thousandths;
    }

    public int day(int n) {
        argument(n >= today && n <= 100000);
        note(10, n, 0, 0);
        today = n;
        int many = 0;
        for (Row r : rows) {
            if (r.state == QUARANTINED && r.end <= n) {
                r.state = RETURNED;
                many++;
            }
        }
        return many;
    }

    public void quarantine(int n) {
        argument(n >= 0 && n <= 1000);
        note(11, n, 0, 0);
        days = n;
    }

    public int holderOf(int address, int level) {
        for (int i = 0; i < rows.size(); i++) {
            Row r = rows.get(i);
            if (r.state == GIVEN && r.level == level && inside(unsigned(address), 32, r.prefix, r.length)) {
                return i;
            }
        }
        return -1;
    }

    public int field(int record, int what) {
        known(record);
        argument(what >= 0 && what <= 6);
        Row r = rows.get(record);
        return new int[] {(int) r.prefix, r.length, r.parent, r.level, r.holder, r.state, r.end}[what];
    }

    public int told(int what) {
        return what < 0 || what > 3 ? -1 : new int[] {rows.size(), today, days, log.size()}[what];
    }

    public long freeAt(int record, int length) {
        known(record);
        argument(length >= 0 && length <= 32);
        Row r = rows.get(record);
        return length < r.length ? 0 : countFree(record, r.prefix, r.length, length);
    }

    private long countFree(int record, long p, int n, int length) {
        if (free(record, p, n)) {
            return 1L << (length - n);
        }
        if (n == length || wholeUsed(record, p, n)) {
            return 0;
        }
        return countFree(record, p, n + 1, length) + countFree(record, sibling(p, n + 1), n + 1, length);
    }

    public int blocks(int record) {
        known(record);
        return blockList(record).size();
    }

    public int block(int record, int k, boolean length) {
        known(record);
        List<long[]> all = blockList(record);
        if (k < 0 || k >= all.size()) {
            throw new IndexOutOfBoundsException();
        }
        return (int) all.get(k)[length ? 1 : 0];
    }

    public long used(int record) {
        known(record);
        long sum = 0;
        for (Row r : liveChildren(record)) {
            sum += 1L << (32 - r.length);
        }
        return sum;
    }

    private List<long[]> cutList(int record) {
        List<long[]> all = new ArrayList<>();
        for (Row r : liveChildren(record)) {
            int n = r.length;
            while (n % 4 != 0) {
                n++;
            }
            for (long p = r.prefix; r.state == GIVEN && p < r.prefix + (1L << (32 - r.length)); p += 1L << (32 - n)) {
                all.add(new long[] {p, n});
            }
        }
        all.sort((a, b) -> Long.compare(a[0], b[0]));
        return all;
    }

    public int cuts(int record) {
        known(record);
        return cutList(record).size();
    }

    public int cut(int record, int k, boolean length) {
        known(record);
        List<long[]> all = cutList(record);
        if (k < 0 || k >= all.size()) {
            throw new IndexOutOfBoundsException();
        }
        return (int) all.get(k)[length ? 1 : 0];
    }

    public int log(int k, int what) {
        if (k < 0 || k >= log.size()) {
            throw new IndexOutOfBoundsException();
        }
        argument(what >= 0 && what <= 3);
        return log.get(k)[what];
    }

    public int replay(int k) {
        argument(k >= 0 && k <= log.size());
        second = new PlainModel();
        for (int[] e : log.subList(0, k)) {
            second.again(e[0], e[1], e[2], e[3]);
        }
        return second.rows.size();
    }

    private void again(int kind, int a, int b, int c) {
        switch (kind) {
            case 1 -> root(a, b, c);
            case 2 -> ask(a, b, c == 1);
            case 3 -> reserve(a, b, c);
            case 4 -> give(a);
            case 5 -> back(a);
            case 6 -> grow(a);
            case 7 -> shrink(a, b == 1);
            case 8 -> transfer(a, b);
            case 9 -> policy(a, b);
            case 10 -> day(a);
            default -> quarantine(a);
        }
    }

    private String text() {
        StringBuilder all = new StringBuilder();
        all.append(today).append(' ').append(days).append(' ').append(java.util.Arrays.toString(policies));
        for (Row r : rows) {
            all.append('\n').append(r.text());
        }
        return all.toString();
    }

    public boolean same() {
        return text().equals((second == null ? new PlainModel() : second).text());
    }
}
