import java.util.Collections;
import java.util.List;

/** The boundaries that promises 13 to 24 name (the calls that look, and the second registry), sentence by sentence. */
public final class LookEdgeTest extends Edges {
    private static final int[] NO_RECORDS = {-1, 5, 200, LOW, HIGH};

    public static void main(String[] args) {
        holderOfAddresses();
        holderOfGivenOnes();
        holderOfLevels();
        fields();
        fieldsWithoutRecord();
        fieldsOfOtherKinds();
        toldAll();
        freeAtLengths();
        freeAtFullAndEmpty();
        freeAtWithoutRecord();
        freeAtRefuses();
        blocksFullAndEmpty();
        blocksAreMany();
        blocksWithoutRecord();
        blockByAddress();
        blockRefuses();
        usedAddresses();
        usedWithoutRecord();
        cutsOfGivenChildren();
        cutsOfEachLength();
        cutsWithoutRecord();
        cutByAddress();
        cutRefuses();
        logOfEntries();
        logWithoutEntry();
        logOfOtherKinds();
        replayOfFirstEntries();
        replayOfAll();
        replayRefuses();
        sameRecords();
        sameDaysAndPolicies();
        sameBeforeReplay();
        finish("LookEdgeTest");
    }

    private static void holderOfAddresses() {
        sentence("Promise 13", "The GIVEN record of a level that has an address; NONE when there is none.");
        on(stairs()).says(holderOf(TEN - 1, 0), NONE).says(holderOf(TEN, 0), 0).says(holderOf(0x0AFFFFFF, 0), 0)
            .says(holderOf(0x0B000000, 0), NONE).says(holderOf(TEN + (1 << 16) - 1, 4), 4)
            .says(holderOf(TEN + (1 << 16), 4), NONE).says(holderOf(TEN + (1 << 16), 3), 3)
            .says(holderOf(TEN + (1 << 18) - 1, 3), 3).says(holderOf(TEN + (1 << 18), 3), NONE)
            .says(holderOf(TEN - 1, 4), NONE).says(holderOf(TEN + (1 << 22), 1), NONE);
        on(root(HIGH - 1, 31, 1), root(LOW, 31, 1), ask(0, 32, false), ask(1, 32, false)).says(holderOf(HIGH, 0), 0)
            .says(holderOf(LOW, 0), 1).says(holderOf(HIGH - 1, 1), 2).says(holderOf(HIGH, 1), NONE)
            .says(holderOf(LOW, 1), 3).says(holderOf(LOW + 1, 1), NONE).says(holderOf(HIGH - 2, 0), NONE)
            .says(holderOf(LOW + 2, 0), NONE).says(holderOf(0, 0), NONE).says(holderOf(-1, 0), NONE);
        on(root(-2, 31, 1), ask(0, 31 + 1, false), ask(0, 32, false)).says(holderOf(-1, 0), 0)
            .says(holderOf(-1, 1), 2).says(holderOf(-2, 1), 1).says(holderOf(0, 0), NONE).says(holderOf(-3, 0), NONE);
        on(ten(), ask(0, 16, false), grow(1), shrink(1, true)).says(holderOf(TEN, 1), NONE)
            .says(holderOf(TEN + 65535, 1), NONE).says(holderOf(TEN + 65536, 1), 1)
            .says(holderOf(TEN + 131071, 1), 1).says(holderOf(TEN + 131072, 1), NONE);
        on(crowd(200)).says(holderOf(0x0AFE0000 + 193, 1), 199).says(holderOf(0x0AFE0000 + 194, 1), NONE);
    }

    private static void holderOfGivenOnes() {
        sentence("Promise 13", "The GIVEN record of a level");
        on(states()).says(holderOf(TEN, 1), 1).says(holderOf(TEN + (1 << 16), 1), NONE)
            .says(holderOf(TEN + (2 << 16), 1), NONE).says(holderOf(TEN + (3 << 16), 1), NONE).says(give(2), DONE)
            .says(holderOf(TEN + (1 << 16), 1), 2).says(back(2), 5).says(holderOf(TEN + (1 << 16), 1), NONE)
            .says(ask(0, 16, false), 5).says(holderOf(TEN + (3 << 16), 1), 5);
        on(ten(), back(0), root(TEN, 8, 3)).says(holderOf(TEN, 0), 1);
        on(ten(), quarantine(1), back(0)).says(holderOf(TEN, 0), NONE);
    }

    private static void holderOfLevels() {
        sentence("Promise 13", "NONE when there is none.");
        Story story = on(stairs());
        for (int level = 0; level <= 4; level++) {
            story.says(holderOf(TEN, level), level);
        }
        for (int level : new int[] {-1, 5, LOW, HIGH}) {
            story.says(holderOf(TEN, level), NONE).says(holderOf(0, level), NONE);
        }
        on().says(holderOf(0, 0), NONE).says(holderOf(-1, 4), NONE);
    }

    private static void fields() {
        sentence("Promise 14",
            "Of a record: its prefix (what = 0), length (1), parent (2; NONE for a top block), level (3), holder"
                + " (4), state (5), END (6).");
        on(stairs(), transfer(4, 9999)).has(0, TEN, 8, NONE, 0, 7, GIVEN, 0).has(1, TEN, 10, 0, 1, 7, GIVEN, 0)
            .has(4, TEN, 16, 3, 4, 9999, GIVEN, 0);
        on(states()).has(2, TEN + (1 << 16), 16, 0, 1, 7, RESERVED, 0)
            .has(3, TEN + (2 << 16), 16, 0, 1, 7, QUARANTINED, 5).has(4, TEN + (3 << 16), 16, 0, 1, 7, RETURNED, 0);
        on(root(0, 0, 0), reserve(0, -1, 32)).has(0, 0, 0, NONE, 0, 0, GIVEN, 0)
            .has(1, -1, 32, 0, 1, 0, RESERVED, 0);
        on(crowd(200)).has(199, 0x0AFE0000 + 193, 32, 0, 1, 7, GIVEN, 0);
        on(ten(), root(0, 8, 1), ask(1, 9, false)).has(2, 0, 9, 1, 1, 1, GIVEN, 0);
    }

    private static void fieldsWithoutRecord() {
        sentence("Promise 14", "IndexOutOfBounds: there is no such record.");
        for (int r : NO_RECORDS) {
            on(states()).refuses(field(r, 0), INDEX).refuses(field(r, 6), INDEX).refuses(field(r, 7), INDEX);
        }
        on().refuses(field(0, 0), INDEX).refuses(field(0, -1), INDEX);
        on(crowd(200)).refuses(field(200, 0), INDEX).says(field(199, 6), 0);
    }

    private static void fieldsOfOtherKinds() {
        sentence("Promise 14", "IllegalArgument: what is none of these.");
        for (int what : new int[] {-1, 7, LOW, HIGH}) {
            on(states()).refuses(field(0, what), ARGUMENT).refuses(field(4, what), ARGUMENT);
        }
        on(crowd(200)).refuses(field(199, 7), ARGUMENT).refuses(field(199, -1), ARGUMENT);
    }

    private static void toldAll() {
        sentence("Promise 15",
            "How many records there are (what = 0), what TODAY is (1), QUARANTINE (2), how many entries the log"
                + " has (3); NONE for another what.");
        on().says(told(0), 0).says(told(1), 0).says(told(2), 0).says(told(3), 0);
        on(states(), day(100000), quarantine(1000)).says(told(0), 5).says(told(1), 100000).says(told(2), 1000)
            .says(told(3), 10).says(told(-1), NONE).says(told(4), NONE).says(told(LOW), NONE).says(told(HIGH), NONE);
        on(crowd(200)).says(told(0), 200).says(told(3), 200);
        on(written(300)).says(told(3), 300).says(told(0), 6);
    }

    private static void freeAtLengths() {
        sentence("Promise 16", "How many free prefixes of a length lie inside a record.");
        Story all = on(root(0, 0, 1));
        for (int length = 0; length <= 32; length++) {
            all.says(freeAt(0, length), 1L << length);
        }
        Story hole = on(root(0, 0, 1), reserve(0, HIGH, 32));
        for (int length = 0; length <= 32; length++) {
            hole.says(freeAt(0, length), (1L << length) - 1);
        }
        Story eight = on(ten());
        for (int length = 0; length <= 32; length++) {
            eight.says(freeAt(0, length), length < 8 ? 0 : 1L << (length - 8));
        }
        on(ten(), ask(0, 9, false), reserve(0, 0x0AFFFFFF, 32)).says(freeAt(0, 9), 0).says(freeAt(0, 10), 1)
            .says(freeAt(0, 11), 3).says(freeAt(0, 32), (1 << 23) - 1);
        on(root(0, 28, 1), reserve(0, 0, 30), reserve(0, 12, 30)).says(freeAt(0, 29), 0).says(freeAt(0, 30), 2)
            .says(freeAt(0, 31), 4).says(freeAt(0, 32), 8);
    }

    private static void freeAtFullAndEmpty() {
        sentence("Promise 16", "How many free prefixes");
        Story full = on(filled());
        for (int length = 0; length <= 32; length++) {
            full.says(freeAt(0, length), 0);
        }
        full.says(freeAt(3, 32), 1).says(freeAt(3, 31), 0).says(back(2), 0).says(freeAt(0, 32), 1)
            .says(freeAt(0, 31), 0).says(back(3), 0).says(freeAt(0, 31), 1).says(freeAt(0, 32), 2);
        on(states()).says(freeAt(2, 16), 1).says(freeAt(3, 17), 2).says(freeAt(4, 32), 65536).says(freeAt(4, 15), 0);
    }

    private static void freeAtWithoutRecord() {
        sentence("Promise 16", "IndexOutOfBounds: there is no such record.");
        for (int r : NO_RECORDS) {
            on(states()).refuses(freeAt(r, 0), INDEX).refuses(freeAt(r, 32), INDEX).refuses(freeAt(r, 33), INDEX);
        }
        on().refuses(freeAt(0, 32), INDEX).refuses(freeAt(0, -1), INDEX);
    }

    private static void freeAtRefuses() {
        sentence("Promise 16", "IllegalArgument: length is not 0 .. 32.");
        for (int length : new int[] {-1, 33, LOW, HIGH}) {
            on(states()).refuses(freeAt(0, length), ARGUMENT).refuses(freeAt(4, length), ARGUMENT);
        }
        on(states()).says(freeAt(0, 0), 0).says(freeAt(1, 32), 65536);
    }

    private static void blocksFullAndEmpty() {
        sentence("Promise 17", "How many blocks a record has.");
        on(filled()).says(blocks(0), 0).says(blocks(1), 1).says(blocks(3), 1).says(back(2), 0).says(blocks(0), 1)
            .says(back(1), 0).says(blocks(0), 2).says(back(3), 0).says(blocks(0), 1);
        on(root(0, 0, 1)).says(blocks(0), 1).says(ask(0, 1, false), 1).says(blocks(0), 1).says(grow(1), 0)
            .says(blocks(0), 0);
        on(states()).says(blocks(2), 1).says(blocks(3), 1).says(blocks(4), 1);
    }

    private static void blocksAreMany() {
        sentence("Promise 17", "How many blocks a record has.");
        on(root(0, 0, 1), reserve(0, 0x55555555, 32)).says(blocks(0), 32);
        Story story = on(root(0, 0, 1));
        for (int n = 0; n < 199; n++) {
            story.says(reserve(0, n << 24 | 0x555555, 32), n + 1);
        }
        story.says(blocks(0), 199 * 24 + 4).says(block(0, 199 * 24, false), 199 << 24)
            .says(block(0, 199 * 24, true), 8).says(block(0, 199 * 24 + 3, true), 3)
            .refuses(block(0, 199 * 24 + 4, true), INDEX);
    }

    private static void blocksWithoutRecord() {
        sentence("Promise 17", "IndexOutOfBounds: there is no such record.");
        for (int r : NO_RECORDS) {
            on(states()).refuses(blocks(r), INDEX);
        }
        on().refuses(blocks(0), INDEX);
        on(ten()).refuses(blocks(1), INDEX).says(blocks(0), 1);
    }

    private static void blockByAddress() {
        sentence("Promise 18", "Block k, from 0 on by address: its prefix, or (on true) its length.");
        int[][] want = {{0, 30}, {4, 32}, {6, 31}, {8, 30}, {14, 31}};
        for (int start : new int[] {0, LOW, LOW - 16, -16, TEN}) {
            Story story = on(root(start, 28, 1), reserve(0, start + 12, 31), reserve(0, start + 5, 32));
            for (int k = 0; k < want.length; k++) {
                story.says(block(0, k, false), start + want[k][0]).says(block(0, k, true), want[k][1]);
            }
            story.refuses(block(0, 5, false), INDEX);
        }
        on(root(0, 0, 1)).says(block(0, 0, false), 0).says(block(0, 0, true), 0).says(ask(0, 1, false), 1)
            .says(block(0, 0, false), LOW).says(block(0, 0, true), 1).refuses(block(0, 1, true), INDEX);
        on(root(-2, 31, 1), ask(0, 32, false)).says(block(0, 0, false), -1).says(block(0, 0, true), 32)
            .says(block(1, 0, false), -2).says(block(1, 0, true), 32);
    }

    private static void blockRefuses() {
        sentence("Promise 18", "IndexOutOfBounds: there is no such record, or block.");
        for (int r : NO_RECORDS) {
            on(states()).refuses(block(r, 0, false), INDEX).refuses(block(r, 0, true), INDEX);
        }
        for (int k : new int[] {-1, 7, LOW, HIGH}) {
            on(states()).refuses(block(0, k, false), INDEX).refuses(block(0, k, true), INDEX);
        }
        on(states()).says(block(0, 0, false), TEN + (3 << 16)).says(block(0, 6, true), 9)
            .refuses(block(1, 1, false), INDEX).refuses(block(4, 1, false), INDEX);
        on(filled()).refuses(block(0, 0, false), INDEX).refuses(block(0, 0, true), INDEX)
            .refuses(block(0, -1, true), INDEX);
    }

    private static void usedAddresses() {
        sentence("Promise 19", "How many addresses of a record are used.");
        on(ten()).says(used(0), 0);
        on(filled()).says(used(0), 4).says(used(1), 0).says(back(3), 0).says(used(0), 3);
        on(root(0, 0, 1)).says(used(0), 0).says(ask(0, 1, false), 1).says(used(0), 1L << 31).says(ask(0, 1, false), 2)
            .says(used(0), 1L << 32).says(back(1), 0).says(used(0), 1L << 31);
        on(root(0, 0, 1), ask(0, 1, false), grow(1)).says(used(0), 1L << 32).says(used(1), 0);
        on(states()).says(used(0), 3 << 16).says(used(4), 0);
    }

    private static void usedWithoutRecord() {
        sentence("Promise 19", "IndexOutOfBounds: there is no such record.");
        for (int r : NO_RECORDS) {
            on(states()).refuses(used(r), INDEX);
        }
        on().refuses(used(0), INDEX);
        on(ten()).refuses(used(1), INDEX).says(used(0), 0);
    }

    private static void cutsOfGivenChildren() {
        sentence("Promise 20", "CUTS are, for each GIVEN record whose parent this one is");
        on(ten()).says(cuts(0), 0);
        on(states()).says(cuts(0), 1).says(give(2), DONE).says(cuts(0), 2).says(back(1), 5).says(cuts(0), 1)
            .says(back(2), 5).says(cuts(0), 0).says(day(5), 3).says(cuts(0), 0);
        on(stairs()).says(cuts(0), 4).says(cuts(1), 1).says(cuts(2), 4).says(cuts(3), 1).says(cuts(4), 0);
        on(filled()).says(cuts(0), 4).says(cuts(1), 0);
        Story many = on(root(0, 0, 1));
        for (int n = 0; n < 199; n++) {
            many.says(ask(0, 9, false), n + 1);
        }
        many.says(cuts(0), 199 * 8).says(cut(0, 1591, false), (198 << 23) + (7 << 20))
            .refuses(cut(0, 1592, true), INDEX);
    }

    private static void cutsOfEachLength() {
        sentence("Promise 20",
            "all prefixes inside it of the least length that is a multiple of 4 and not below its own: how many.");
        int[] many = {1, 8, 4, 2};
        for (int length = 1; length <= 32; length++) {
            int cutLength = (length + 3) / 4 * 4;
            int prefix = -sizeOf(length);
            Story story = on(root(0, 0, 1), reserve(0, prefix, length), give(1)).says(cuts(0), many[length % 4]);
            for (int k = 0; k < many[length % 4]; k++) {
                story.says(cut(0, k, false), prefix + k * sizeOf(cutLength)).says(cut(0, k, true), cutLength);
            }
            story.refuses(cut(0, many[length % 4], true), INDEX);
        }
        on(root(0, 0, 1), ask(0, 1, false)).says(grow(1), 0).says(cuts(0), 1).says(cut(0, 0, false), 0)
            .says(cut(0, 0, true), 0).refuses(cut(0, 1, true), INDEX);
    }

    private static void cutsWithoutRecord() {
        sentence("Promise 20", "IndexOutOfBounds: there is no such record.");
        for (int r : NO_RECORDS) {
            on(states()).refuses(cuts(r), INDEX);
        }
        on().refuses(cuts(0), INDEX);
        on(ten()).refuses(cuts(1), INDEX).says(cuts(0), 0);
    }

    private static void cutByAddress() {
        sentence("Promise 21", "Cut k, from 0 on by address: its prefix, or (on true) its length.");
        int[][] want = {{0, 32}, {1, 32}, {3 << 8, 24}, {1 << 16, 16}, {1 << 23, 12}, {(1 << 23) + (1 << 20), 12}};
        int[] numbers = {0, 1, 8, 9, 10, 11};
        for (int start : new int[] {0, LOW, LOW - (1 << 24), -(1 << 24)}) {
            Story story = on(root(start, 8, 1), reserve(0, start + (1 << 16), 16), reserve(0, start + (1 << 23), 9),
                reserve(0, start + (3 << 8), 24), reserve(0, start, 29), reserve(0, start + 8, 29), give(2), give(1),
                give(4), give(3)).says(cuts(0), 18);
            for (int i = 0; i < want.length; i++) {
                story.says(cut(0, numbers[i], false), start + want[i][0]).says(cut(0, numbers[i], true), want[i][1]);
            }
            story.says(cut(0, 17, false), start + (1 << 23) + (7 << 20)).refuses(cut(0, 18, false), INDEX);
        }
        on(root(-2, 31, 1), ask(0, 32, false), ask(0, 32, false)).says(cut(0, 0, false), -2).says(cut(0, 1, false), -1);
    }

    private static void cutRefuses() {
        sentence("Promise 21", "IndexOutOfBounds: there is no such record, or cut.");
        for (int r : NO_RECORDS) {
            on(states()).refuses(cut(r, 0, false), INDEX).refuses(cut(r, 0, true), INDEX);
        }
        for (int k : new int[] {-1, 1, LOW, HIGH}) {
            on(states()).refuses(cut(0, k, false), INDEX).refuses(cut(0, k, true), INDEX);
        }
        on(states()).says(cut(0, 0, false), TEN).says(cut(0, 0, true), 16);
        for (int r = 1; r <= 4; r++) {
            on(states()).refuses(cut(r, 0, false), INDEX).refuses(cut(r, 0, true), INDEX);
        }
    }

    private static void logOfEntries() {
        sentence("Promise 22", "Of entry k of the log: its kind (what = 0), or an argument (1 .. 3).");
        on(root(-2, 31, 9999), reserve(0, -1, 32)).says(log(0, 0), 1).says(log(0, 1), -2).says(log(0, 2), 31)
            .says(log(0, 3), 9999).says(log(1, 0), 3).says(log(1, 1), 0).says(log(1, 2), -1).says(log(1, 3), 32);
        on(written(299), transfer(0, 9999)).says(log(299, 0), 8).says(log(299, 1), 0).says(log(299, 2), 9999)
            .says(log(299, 3), 0).says(log(298, 0), 10).says(log(0, 1), TEN);
        on(states(), day(1), day(1)).says(log(8, 1), 1).says(log(9, 1), 1);
    }

    private static void logWithoutEntry() {
        sentence("Promise 22", "IndexOutOfBounds: there is no such entry.");
        for (int k : new int[] {-1, 8, 300, 1 << 30, LOW, HIGH}) {
            on(states()).refuses(log(k, 0), INDEX).refuses(log(k, 3), INDEX).refuses(log(k, 4), INDEX)
                .refuses(log(k, -1), INDEX);
        }
        on().refuses(log(0, 0), INDEX).refuses(log(-1, 0), INDEX);
        on(written(300)).refuses(log(300, 0), INDEX).refuses(log(-1, 0), INDEX).says(log(299, 0), 10);
    }

    private static void logOfOtherKinds() {
        sentence("Promise 22", "IllegalArgument: what is none of these.");
        for (int what : new int[] {-1, 4, LOW, HIGH}) {
            on(states()).refuses(log(0, what), ARGUMENT).refuses(log(7, what), ARGUMENT);
        }
        on(written(300)).refuses(log(299, 4), ARGUMENT).refuses(log(299, -1), ARGUMENT).says(log(299, 3), 0);
    }

    private static void replayOfFirstEntries() {
        sentence("Promise 23",
            "The SECOND registry is built anew of the first k entries of the log: how many records it has.");
        int[] records = {0, 1, 2, 3, 4, 5, 5, 5, 5};
        Story story = on(states());
        for (int k = 8; k >= 0; k--) {
            story.says(replay(k), records[k]).says(same(), k == 8);
        }
        for (int k = 0; k <= 8; k++) {
            story.says(replay(k), records[k]).says(same(), k == 8);
        }
        story.says(told(3), 8).says(told(0), 5);
        for (int k = 0; k <= 3; k++) {
            on(ten(), day(0), policy(0, 0), quarantine(0)).says(replay(k + 1), 1).says(same(), true);
        }
        on(ten(), back(0), root(TEN, 8, 1), back(1)).says(replay(3), 2).says(same(), false).says(replay(4), 2)
            .says(same(), true);
        on(ten()).says(replay(1), 1).says(back(0), 0).says(same(), false).says(replay(1), 1).says(same(), false)
            .says(replay(2), 1).says(same(), true).says(replay(0), 0).says(same(), false);
    }

    private static void replayOfAll() {
        sentence("Promise 23", "is built anew of the first k entries of the log");
        List<Call> mixed = then(states(), ask(0, 20, true), ask(1, 24, false), grow(5), shrink(5, true), give(2),
            transfer(1, 9), policy(0, 1), policy(3, 1000), day(5), back(6), quarantine(7), day(6), root(0, 31, 0));
        on(mixed).says(replay(21), 8).says(same(), true).says(replay(20), 7).says(same(), false)
            .says(replay(21), 8).says(same(), true);
        on(crowd(200)).says(replay(200), 200).says(same(), true).says(replay(199), 199).says(same(), false)
            .says(replay(200), 200).says(same(), true).says(replay(1), 1).says(same(), false);
        on(written(300)).says(replay(300), 6).says(same(), true).says(replay(9), 6).says(same(), true)
            .says(replay(8), 5).says(same(), false).says(replay(299), 6).says(same(), true);
        on(Collections.nCopies(150, day(0)), root(0, 0, 1)).says(replay(151), 1).says(replay(150), 0);
    }

    private static void replayRefuses() {
        sentence("Promise 23", "IllegalArgument: the log has not so many, or k is below 0.");
        for (int k : new int[] {-1, 9, 300, LOW, HIGH}) {
            on(states()).refuses(replay(k), ARGUMENT);
            on(states(), replay(8)).says(same(), true).refuses(replay(k), ARGUMENT).says(same(), true);
            on(states(), replay(7)).says(same(), false).refuses(replay(k), ARGUMENT).says(same(), false);
        }
        on().refuses(replay(1), ARGUMENT).refuses(replay(-1), ARGUMENT).says(replay(0), 0);
        on(written(300)).refuses(replay(301), ARGUMENT).says(replay(300), 6);
    }

    private static void sameRecords() {
        sentence("Promise 24",
            "Whether the SECOND registry has just the records that are here, in all that field() tells");
        Call[] changes = {
            root(0, 8, 1), ask(0, 16, true), reserve(0, TEN + (1 << 20), 16), give(2), back(1), grow(5),
            shrink(1, true), shrink(1, false), transfer(2, 1), transfer(0, 1), back(2)};
        for (Call change : changes) {
            List<Call> all = then(states(), ask(0, 16, true), replay(9), change);
            on(all).says(same(), false).says(replay(9), 6).says(same(), false).says(replay(10), change == changes[0]
                || change == changes[1] || change == changes[2] ? 7 : 6).says(same(), true);
        }
        on(states(), replay(8), shrink(1, true), grow(1)).says(same(), true);
        on(states(), shrink(1, true), replay(9), grow(1), shrink(1, false)).says(same(), false);
        on(states(), replay(8), transfer(1, 8), transfer(1, 7)).says(same(), true);
        on(states(), quarantine(0), replay(9), back(1)).says(same(), false).says(replay(10), 5).says(same(), true);
        on(crowd(200), replay(200), shrink(4, true)).says(same(), false);
        on(crowd(200), replay(200), back(199)).says(same(), false);
        on(ten(), replay(1), transfer(0, 8)).says(same(), false).says(transfer(0, 7), 1).says(same(), true);
        on(ten(), replay(1), back(0)).says(same(), false);
    }

    private static void sameDaysAndPolicies() {
        sentence("Promise 24", "and today, quarantine and policies.");
        on(states(), replay(8), day(1)).says(same(), false).says(replay(9), 5).says(same(), true);
        on(states(), replay(8), quarantine(4)).says(same(), false).says(quarantine(5), DONE).says(same(), true);
        for (int level = 0; level <= 3; level++) {
            on(states(), replay(8), policy(level, 1)).says(same(), false).says(policy(level, 0), DONE)
                .says(same(), true);
            on(states(), policy(level, 1000), replay(9), policy(level, 999)).says(same(), false)
                .says(replay(10), 5).says(same(), true).says(replay(0), 0).says(same(), false);
            on(policy(level, 5), replay(1), policy(level, 0)).says(same(), false).says(replay(0), 0)
                .says(same(), true);
        }
        on(quarantine(1), replay(1), quarantine(0)).says(same(), false).says(replay(0), 0).says(same(), true);
        on(states(), replay(8), day(0), quarantine(5), policy(3, 0)).says(same(), true);
    }

    private static void sameBeforeReplay() {
        sentence("Promise 24", "(Before any replay() the second one is new.)");
        on().says(same(), true);
        on(ten()).says(same(), false);
        on(day(0), policy(2, 0), quarantine(0)).says(same(), true);
        on(day(1)).says(same(), false);
        on(quarantine(1)).says(same(), false);
        on(policy(3, 1)).says(same(), false);
    }
}
