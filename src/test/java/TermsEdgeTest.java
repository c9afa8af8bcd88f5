import java.util.Collections;
import java.util.List;

/** The boundaries that "What it is" and "Terms" name, sentence by sentence. */
public final class TermsEdgeTest extends Edges {
    public static void main(String[] args) {
        allThatItDoes();
        manyCalls();
        addresses();
        addressesByOrder();
        addressesDoNotWrap();
        lengthsOfPrefixes();
        alignment();
        insideTheSame();
        siblings();
        recordNumbers();
        parents();
        levels();
        holders();
        statesAndEnds();
        liveRecords();
        usedAddresses();
        freePrefixes();
        blocksOfRecords();
        daysAtFirst();
        policiesAtFirst();
        policyBelowItsLevel();
        policyIsMetByNotLess();
        policyCountsSomeChildren();
        policyOfManyAddresses();
        codesNotGiven();
        codesInOrder();
        codeShape();
        codeDeep();
        codeFull();
        codePolicy();
        codeTaken();
        logEntries();
        logEntriesOfAccepted();
        fullLogRefuses();
        fullLogComesLast();
        almostFullLogAccepts();
        secondAtFirst();
        refusedChangesNothing();
        firstExceptionThatFits();
        looksChangeNothing();
        objectsAreApart();
        finish("TermsEdgeTest");
    }

    private static void allThatItDoes() {
        sentence("What it is",
            "Hands out prefixes of 32-bit addresses in levels, one below the other: by best fit or with room to grow,"
                + " with reserving, growing and halving in place, quarantine, policies of use, whole trees that change"
                + " their holder, cuts for reverse zones, and a log from which all is built again.");
        on().says(root(TEN, 8, 7), 0).says(ask(0, 16, false), 1).says(ask(1, 23, false), 2).says(ask(0, 16, false), 3)
            .has(3, TEN + (1 << 16), 16, 0, 1).says(ask(0, 16, true), 4).has(4, TEN + (1 << 23), 16, 0, 1)
            .has(2, TEN, 23, 1, 2).says(reserve(0, 0x0AFF0000, 16), 5).says(grow(4), 15).has(4, TEN + (1 << 23), 15)
            .says(shrink(4, true), 16).has(4, TEN + (1 << 23) + (1 << 16), 16).says(quarantine(2), DONE)
            .says(back(3), 2).refuses(reserve(0, TEN + (1 << 16), 16), TAKEN).says(day(2), 1)
            .says(transfer(4, 8), 1).says(policy(0, 8), DONE).refuses(ask(0, 16, false), POLICY)
            .says(transfer(1, 9), 2).says(field(1, 4), 9).says(field(2, 4), 9).says(field(0, 4), 7)
            .says(ask(0, 16, false), 6).has(6, TEN + (1 << 16), 16, 0, 1, 7).says(cuts(0), 3).says(cuts(1), 2)
            .says(cut(1, 1, false), TEN + 256).says(cut(1, 1, true), 24).says(told(3), 15).says(same(), false)
            .says(replay(15), 7).says(same(), true);
    }

    private static void manyCalls() {
        sentence("What it is",
            "An object is used for at most 512 calls after it has been made; what later calls answer is free.");
        List<Call> full = then(crowd(200));
        full.addAll(Collections.nCopies(100, transfer(0, 7)));
        Story story = on(full);
        for (int n = 300; n < 506; n++) {
            story.says(field(n - 307 < 0 ? 0 : n - 307, 4), 7);
        }
        story.says(ask(0, 32, false), FULL).says(day(1), UNSUPPORTED).says(told(3), 300).says(field(199, 1), 32);
        story.says(replay(300), 200).says(same(), true);
    }

    private static void addresses() {
        sentence("Terms",
            "ADDRESSES are the 2^32 ints, from 0 by 2147483647 and -2147483648 up to -1 (as without sign).");
        on(root(0, 0, 1)).says(freeAt(0, 32), 1L << 32).says(holderOf(0, 0), 0).says(holderOf(HIGH, 0), 0)
            .says(holderOf(LOW, 0), 0).says(holderOf(-1, 0), 0);
        on(root(0, 1, 1), root(LOW, 1, 2)).says(holderOf(0, 0), 0).says(holderOf(HIGH, 0), 0)
            .says(holderOf(LOW, 0), 1).says(holderOf(-1, 0), 1).says(holderOf(1, 0), 0).says(holderOf(LOW + 1, 0), 1);
        on(root(LOW, 1, 2)).says(holderOf(0, 0), NONE).says(holderOf(HIGH, 0), NONE);
        on(root(0, 1, 1)).says(holderOf(LOW, 0), NONE).says(holderOf(-1, 0), NONE);
    }

    private static void addressesByOrder() {
        sentence("Terms", "from 0 by 2147483647 and -2147483648 up to -1");
        Story story = on(root(0, 0, 1), reserve(0, -1, 32), reserve(0, LOW, 32), reserve(0, HIGH, 32),
            reserve(0, 0, 32), give(1), give(2), give(3), give(4));
        int[] order = {0, HIGH, LOW, -1};
        for (int k = 0; k < order.length; k++) {
            story.says(cut(0, k, false), order[k]);
        }
        story.says(blocks(0), 120).says(block(0, 0, false), 1).says(block(0, 59, false), HIGH - 1)
            .says(block(0, 60, false), LOW + 1).says(block(0, 119, false), -2);
        List<Call> twoQuarters = run(root(0, 0, 1), reserve(0, 1 << 30, 2), reserve(0, LOW + (1 << 30), 2));
        for (boolean room : new boolean[] {false, true}) {
            on(twoQuarters).says(ask(0, 2, room), 3).has(3, 0, 2).says(ask(0, 2, room), 4).has(4, LOW, 2);
            on(twoQuarters, reserve(0, 0, 2)).says(ask(0, 32, room), 4).has(4, LOW, 32);
        }
    }

    private static void addressesDoNotWrap() {
        sentence("Terms", "up to -1 (as without sign)");
        on(root(-2, 31, 1)).says(root(0, 31, 2), 1).says(holderOf(-1, 0), 0).says(holderOf(0, 0), 1);
        on(root(0, 31, 1)).says(root(-2, 31, 2), 1).says(root(LOW, 31, 3), 2).says(root(HIGH - 1, 31, 4), 3)
            .says(holderOf(HIGH, 0), 3).says(holderOf(LOW, 0), 2);
        on(root(-256, 24, 1)).refuses(reserve(0, 0, 32), SHAPE).refuses(reserve(0, -257, 32), SHAPE)
            .says(reserve(0, -1, 32), 1).says(reserve(0, -256, 32), 2);
        on(root(0, 24, 1)).refuses(reserve(0, -1, 32), SHAPE).refuses(reserve(0, 256, 32), SHAPE)
            .says(reserve(0, 0, 32), 1).says(reserve(0, 255, 32), 2);
        on(root(LOW, 24, 1)).refuses(reserve(0, HIGH, 32), SHAPE).says(reserve(0, LOW, 32), 1);
        on(root(HIGH - 255, 24, 1)).refuses(reserve(0, LOW, 32), SHAPE).says(reserve(0, HIGH, 32), 1);
    }

    private static void lengthsOfPrefixes() {
        sentence("Terms", "A PREFIX of LENGTH n, 0 .. 32, has the 2^(32 - n) addresses with the same first n bits");
        for (int n = 0; n <= 31; n++) {
            int last = n == 0 ? 0 : -sizeOf(n);
            on(root(last, n, 1)).says(freeAt(0, 32), 1L << (32 - n)).says(holderOf(last, 0), 0)
                .says(holderOf(-1, 0), 0).says(holderOf(last - 1, 0), n == 0 ? 0 : NONE)
                .says(holderOf(0, 0), n == 0 ? 0 : NONE);
            on(root(0, n, 1)).says(holderOf(0, 0), 0).says(holderOf(sizeOf(n) - 1, 0), 0)
                .says(holderOf(sizeOf(n), 0), n == 0 ? 0 : NONE).says(holderOf(-1, 0), n == 0 ? 0 : NONE);
        }
        on(root(-2, 31, 1), ask(0, 32, false), ask(0, 32, false)).says(freeAt(1, 32), 1).says(holderOf(-2, 1), 1)
            .says(holderOf(-1, 1), 2).says(holderOf(-3, 1), NONE).says(holderOf(0, 1), NONE);
    }

    private static void alignment() {
        sentence("Terms", "it is told by the first of them, which is ALIGNED to n: its lowest 32 - n bits are 0.");
        for (int n = 0; n <= 31; n++) {
            int high = 1 << (31 - n);
            Story story = on().refuses(root(1, n, 1), ARGUMENT).refuses(root(high, n, 1), ARGUMENT)
                .refuses(root(-1, n, 1), ARGUMENT);
            if (n > 0) {
                story.says(root(high << 1, n, 1), 0).says(root(0, n, 1), 1);
                on().says(root(-sizeOf(n), n, 1), 0);
            } else {
                story.says(root(0, n, 1), 0);
            }
        }
        for (int n = 1; n <= 31; n++) {
            int high = 1 << (31 - n);
            on(root(0, 0, 1)).refuses(reserve(0, 1, n), SHAPE).refuses(reserve(0, high, n), SHAPE)
                .refuses(reserve(0, -1, n), SHAPE).says(reserve(0, high << 1, n), 1).says(reserve(0, 0, n), 2);
        }
        on(root(0, 0, 1)).says(reserve(0, 1, 32), 1).says(reserve(0, HIGH, 32), 2).says(reserve(0, -1, 32), 3)
            .says(reserve(0, LOW + 1, 32), 4);
    }

    private static void insideTheSame() {
        sentence("Terms",
            "One prefix lies INSIDE another one, if all its addresses are the other's (also if they are the same).");
        on(ten()).says(freeAt(0, 8), 1).says(freeAt(0, 7), 0).says(freeAt(0, 9), 2).says(block(0, 0, true), 8);
        on(ten(), ask(0, 12, false), ask(0, 13, false)).says(cuts(0), 9).says(cut(0, 0, true), 12)
            .says(cut(0, 0, false), TEN).says(cut(0, 1, true), 16).says(cut(0, 8, false), TEN + (1 << 20) + (7 << 16));
        on(ten(), ask(0, 9, false)).says(grow(1), 8).has(1, TEN, 8).refuses(grow(1), SHAPE);
    }

    private static void siblings() {
        sentence("Terms",
            "The SIBLING of a prefix of length 1 .. 32 is the other half of the one that is a bit shorter.");
        for (int address : new int[] {-1, 0, HIGH, LOW, 0x55555555, 0xAAAAAAAA}) {
            Story story = on(root(0, 0, 1), reserve(0, address, 32), give(1));
            for (int n = 31; n >= 0; n--) {
                story.says(grow(1), n).has(1, n == 0 ? 0 : address & -sizeOf(n), n);
            }
            story.refuses(grow(1), SHAPE);
        }
        List<Call> middle = run(root(0, 24, 1), reserve(0, 2, 32), give(1));
        on(middle, reserve(0, 1, 32)).says(grow(1), 31).has(1, 2, 31).refuses(grow(1), TAKEN);
        on(middle, reserve(0, 3, 32)).refuses(grow(1), TAKEN);
        on(middle, reserve(0, 4, 30)).says(grow(1), 31).says(grow(1), 30).refuses(grow(1), TAKEN);
    }

    private static void recordNumbers() {
        sentence("Terms", "RECORDS have numbers 0, 1, .. as they are made, 200 at most.");
        on().refuses(field(0, 0), INDEX).says(root(0, 8, 1), 0).refuses(field(1, 0), INDEX)
            .refuses(root(0, 8, 1), STATE).says(root(1 << 24, 8, 1), 1).refuses(ask(0, 8, false), SHAPE)
            .says(ask(0, 9, false), 2).says(reserve(1, 1 << 24, 9), 3).says(back(3), 0).says(ask(1, 9, false), 4)
            .says(told(0), 5);
        on(crowd(199)).refuses(field(199, 1), INDEX).says(ask(0, 32, false), 199).has(199, 0x0AFE0000 + 193, 32)
            .says(told(0), 200).refuses(ask(0, 32, false), FULL).refuses(ask(0, 32, true), FULL)
            .refuses(reserve(0, 0x0AFD0000, 16), FULL).refuses(root(0, 8, 1), UNSUPPORTED)
            .refuses(field(200, 1), INDEX);
        on(crowd(199)).says(reserve(0, 0x0AFD0000, 16), 199).refuses(root(0, 8, 1), UNSUPPORTED);
        on(crowd(199)).says(root(0, 8, 1), 199).refuses(reserve(199, 0, 9), FULL).refuses(ask(199, 9, true), FULL);
        on(crowd(200), back(199), back(5)).refuses(ask(0, 32, false), FULL).refuses(root(0, 8, 1), UNSUPPORTED);
    }

    private static void parents() {
        sentence("Terms", "Each has a prefix; a PARENT, another record, or none (a TOP block)");
        on(ten(), root(LOW, 31, 1), ask(0, 9, true), reserve(1, LOW + 1, 32)).has(0, TEN, 8, NONE).has(1, LOW, 31, NONE)
            .has(2, TEN, 9, 0).has(3, LOW + 1, 32, 1);
        on(ten(), root(0, 8, 1)).says(field(0, 2), NONE).says(field(1, 2), NONE).says(ask(1, 9, false), 2)
            .says(field(2, 2), 1).says(ask(0, 9, true), 3).says(field(3, 2), 0).says(reserve(2, 0, 10), 4)
            .says(field(4, 2), 2).says(back(4), 0).says(field(4, 2), 2);
        on(crowd(199), root(0, 8, 1)).says(field(198, 2), 0).says(field(199, 2), NONE);
    }

    private static void levels() {
        sentence("Terms", "a LEVEL, 0 for top blocks, one more than its parent's else, 4 at most");
        Story story = on(stairs());
        for (int level = 0; level <= 4; level++) {
            story.says(field(level, 3), level).says(field(level, 2), level - 1);
        }
        story.refuses(ask(4, 17, false), DEEP).refuses(ask(4, 32, true), DEEP).refuses(reserve(4, TEN, 17), DEEP)
            .refuses(reserve(4, TEN, 32), DEEP);
        story.says(reserve(3, TEN + (1 << 16), 16), 5).says(field(5, 3), 4).says(give(5), DONE)
            .refuses(ask(5, 17, false), DEEP).says(ask(3, 16, true), 6).says(field(6, 3), 4);
    }

    private static void holders() {
        sentence("Terms", "a HOLDER, 0 .. 9999");
        on().says(root(0, 8, 0), 0).says(root(1 << 24, 8, 9999), 1).says(field(0, 4), 0).says(field(1, 4), 9999)
            .refuses(root(2 << 24, 8, -1), ARGUMENT).refuses(root(2 << 24, 8, 10000), ARGUMENT)
            .refuses(root(2 << 24, 8, LOW), ARGUMENT).refuses(root(2 << 24, 8, HIGH), ARGUMENT)
            .says(transfer(0, 9999), 1).says(transfer(1, 0), 1).says(field(0, 4), 9999).says(field(1, 4), 0)
            .refuses(transfer(0, -1), ARGUMENT).refuses(transfer(0, 10000), ARGUMENT);
        on(root(0, 8, 9999)).says(ask(0, 9, false), 1).says(field(1, 4), 9999).says(reserve(0, 1 << 23, 9), 2)
            .says(field(2, 4), 9999);
    }

    private static void statesAndEnds() {
        sentence("Terms", "a STATE, 1 GIVEN, 2 RESERVED, 3 QUARANTINED, 4 RETURNED; and an END, a day, at first 0.");
        Story story = on(states());
        for (int r = 1; r <= 4; r++) {
            story.says(field(r, 5), r).says(field(r, 6), r == 3 ? 5 : 0);
        }
        on(day(9)).says(root(0, 8, 1), 0).says(ask(0, 9, false), 1).says(reserve(0, 1 << 23, 9), 2)
            .says(give(2), DONE).says(field(0, 6), 0).says(field(1, 6), 0).says(field(2, 6), 0);
    }

    private static void liveRecords() {
        sentence("Terms", "All but RETURNED ones are LIVE.");
        for (int r = 1; r <= 3; r++) {
            int place = TEN + ((r - 1) << 16);
            on(states()).refuses(reserve(0, place, 16), TAKEN).refuses(back(0), STATE).says(transfer(r, 3), 1);
        }
        on(states()).says(reserve(0, TEN + (3 << 16), 16), 5).refuses(transfer(4, 3), STATE);
        List<Call> top = then(ten(), quarantine(1), back(0));
        on(top).refuses(root(TEN, 8, 1), STATE).says(day(1), 1).says(root(TEN, 8, 1), 1);
    }

    private static void usedAddresses() {
        sentence("Terms", "An address of a record is USED, if a live record whose parent it is has it, else FREE");
        on(filled()).says(used(0), 4).says(freeAt(0, 32), 0).says(blocks(0), 0).refuses(block(0, 0, false), INDEX)
            .refuses(ask(0, 32, false), TAKEN).refuses(ask(0, 32, true), TAKEN)
            .says(used(1), 0).says(freeAt(1, 32), 2).says(freeAt(1, 31), 1);
        on(ten()).says(used(0), 0).says(freeAt(0, 32), 1 << 24).says(blocks(0), 1);
        on(stairs()).says(used(0), 1 << 22).says(used(1), 1 << 20).says(used(3), 1 << 16).says(used(4), 0);
        on(states()).says(used(0), 3 << 16).says(day(5), 1).says(used(0), 2 << 16);
        on(filled(), back(2)).says(used(0), 3).says(freeAt(0, 32), 1).says(ask(0, 32, true), 4)
            .refuses(ask(0, 32, true), TAKEN);
    }

    private static void freePrefixes() {
        sentence("Terms", "a prefix inside it is free, if all its addresses are.");
        for (int address : new int[] {TEN + (1 << 8), TEN + (1 << 8) + 255, TEN + (1 << 8) + 100}) {
            on(ten(), reserve(0, address, 32)).refuses(reserve(0, TEN + (1 << 8), 24), TAKEN)
                .refuses(reserve(0, TEN, 9), TAKEN).says(freeAt(0, 24), (1 << 16) - 1)
                .says(freeAt(0, 9), 1).says(freeAt(0, 8), 0)
                .says(reserve(0, TEN, 24), 2).says(reserve(0, TEN + (2 << 8), 24), 3);
        }
    }

    private static void blocksOfRecords() {
        sentence("Terms", "A BLOCK is a free prefix inside it that lies inside no other free prefix inside it.");
        on(ten()).says(blocks(0), 1).says(block(0, 0, false), TEN).says(block(0, 0, true), 8);
        on(ten(), ask(0, 9, false)).says(blocks(0), 1).says(block(0, 0, false), TEN + (1 << 23))
            .says(block(0, 0, true), 9);
        on(root(0, 28, 1), reserve(0, 0, 30), reserve(0, 12, 30)).says(blocks(0), 2).says(block(0, 0, false), 4)
            .says(block(0, 0, true), 30).says(block(0, 1, false), 8).says(block(0, 1, true), 30);
        on(root(0, 28, 1), reserve(0, 4, 30)).says(blocks(0), 2).says(block(0, 0, true), 30)
            .says(block(0, 1, false), 8).says(block(0, 1, true), 29);
        on(root(0, 0, 1), ask(0, 32, false)).says(blocks(0), 32).says(block(0, 0, true), 32)
            .says(block(0, 31, true), 1).says(block(0, 31, false), LOW);
        on(root(0, 0, 1), reserve(0, -1, 32)).says(blocks(0), 32).says(block(0, 0, true), 1)
            .says(block(0, 31, true), 32).says(block(0, 31, false), -2);
    }

    private static void daysAtFirst() {
        sentence("Terms", "TODAY is 0 at first, so is QUARANTINE, a number of days.");
        on().says(told(1), 0).says(told(2), 0).refuses(day(-1), ARGUMENT).says(day(0), 0);
        on(ten()).says(back(0), 0).has(0, TEN, 8, NONE, 0, 7, RETURNED, 0);
    }

    private static void policiesAtFirst() {
        sentence("Terms", "Each level 0 .. 3 has a POLICY, 0 .. 1000 thousandths, at first 0");
        on(stairs()).says(ask(0, 10, false), 5).says(ask(1, 12, false), 6).says(ask(2, 14, false), 7)
            .says(ask(3, 16, false), 8);
        for (int level = 0; level <= 3; level++) {
            Story story = on(stairs(), policy(level, 1000));
            for (int other = 0; other <= 3; other++) {
                int length = 10 + 2 * other;
                if (other == level) {
                    story.refuses(ask(other, length, false), POLICY).refuses(ask(other, length, true), POLICY);
                } else {
                    story.says(ask(other, length, false), other < level ? 5 + other : 4 + other);
                }
            }
            story.says(policy(level, 0), DONE).says(ask(level, 10 + 2 * level, false), 8);
        }
        on(stairs()).refuses(policy(-1, 0), ARGUMENT).refuses(policy(4, 0), ARGUMENT)
            .refuses(policy(0, -1), ARGUMENT).refuses(policy(0, 1001), ARGUMENT);
    }

    private static void policyBelowItsLevel() {
        sentence("Terms", "it is MET below a record of that level if of each of its GIVEN children");
        on(ten(), root(0, 8, 7), ask(0, 16, false), policy(0, 1)).refuses(ask(0, 16, false), POLICY)
            .says(ask(1, 16, false), 3).refuses(ask(1, 16, false), POLICY).says(ask(2, 20, false), 4)
            .says(ask(0, 16, false), 5);
        on(stairs(), ask(0, 10, false), policy(0, 250)).refuses(ask(0, 10, false), POLICY).says(ask(5, 12, false), 6)
            .says(ask(0, 10, false), 7).refuses(ask(0, 10, false), POLICY);
        on(stairs(), ask(1, 12, false), policy(0, 250)).says(ask(0, 10, false), 6);
        on(stairs(), policy(1, 250), ask(1, 12, false)).refuses(ask(1, 12, false), POLICY).says(ask(0, 10, false), 6);
    }

    private static void policyIsMetByNotLess() {
        sentence("Terms", "the used addresses, times 1000, are not less than all its addresses times the policy.");
        List<Call> quarter = run(root(0, 8, 1), ask(0, 24, false), ask(1, 26, false));
        on(quarter, policy(0, 250)).says(ask(0, 24, false), 3);
        on(quarter, policy(0, 251)).refuses(ask(0, 24, false), POLICY).refuses(ask(0, 24, true), POLICY)
            .says(ask(1, 32, false), 3).says(ask(0, 24, false), 4);
        on(quarter, policy(0, 254)).refuses(ask(0, 24, true), POLICY).says(ask(1, 32, false), 3)
            .refuses(ask(0, 24, true), POLICY).says(ask(1, 32, false), 4).says(ask(0, 24, true), 5);
        List<Call> whole = run(root(0, 8, 1), ask(0, 30, false), ask(1, 31, false), ask(1, 32, false), policy(0, 1000));
        on(whole).refuses(ask(0, 30, false), POLICY).says(ask(1, 32, false), 4).says(ask(0, 30, false), 5)
            .refuses(ask(0, 30, false), POLICY);
        on(root(0, 8, 1), ask(0, 31, false), ask(1, 32, false), policy(0, 500)).says(ask(0, 31, false), 3)
            .refuses(ask(0, 31, false), POLICY);
        on(root(0, 8, 1), ask(0, 31, false), ask(1, 32, false), policy(0, 501)).refuses(ask(0, 31, false), POLICY);
        on(ten(), policy(0, 1000)).says(ask(0, 32, false), 1).refuses(ask(0, 32, false), POLICY);
    }

    private static void policyCountsSomeChildren() {
        sentence("Terms", "of each of its GIVEN children (whose parent it is) that has the record's own holder");
        on(ten(), policy(0, 1), reserve(0, TEN, 16)).says(ask(0, 16, false), 2).refuses(ask(0, 16, false), POLICY);
        on(ten(), policy(0, 1), reserve(0, TEN, 16), give(1)).refuses(ask(0, 16, false), POLICY);
        on(ten(), policy(0, 1), ask(0, 16, false), quarantine(1), back(1)).says(ask(0, 16, false), 2);
        on(ten(), policy(0, 1), ask(0, 16, false), back(1)).says(ask(0, 16, false), 2);
        on(ten(), policy(0, 1), ask(0, 16, false), transfer(1, 8)).says(ask(0, 16, false), 2)
            .says(transfer(1, 7), 1).refuses(ask(0, 16, false), POLICY);
        on(ten(), policy(0, 1), ask(0, 16, false), transfer(0, 8)).refuses(ask(0, 16, false), POLICY);
        on(ten(), policy(0, 1000), ask(0, 31, false), ask(1, 31 + 1, false), ask(1, 32, false))
            .says(ask(0, 31, false), 4).refuses(ask(0, 31, false), POLICY).says(back(4), 0)
            .says(ask(0, 31, false), 5);
        on(stairs(), policy(0, 250)).says(ask(0, 10, false), 5).refuses(ask(0, 10, false), POLICY);
        on(stairs(), policy(1, 1000)).says(ask(0, 10, false), 5).says(ask(5, 12, false), 6)
            .refuses(ask(5, 12, false), POLICY).refuses(ask(1, 12, false), POLICY);
    }

    private static void policyOfManyAddresses() {
        sentence("Terms", "times 1000, are not less than all its addresses times the policy");
        List<Call> half = run(root(0, 0, 1), ask(0, 1, false), ask(1, 2, false));
        on(half, policy(0, 500)).says(ask(0, 2, false), 3).refuses(ask(0, 2, false), POLICY);
        on(half, policy(0, 501)).refuses(ask(0, 2, false), POLICY);
        on(half, ask(1, 2, false), policy(0, 1000)).says(ask(0, 2, false), 4);
        List<Call> all = run(root(0, 0, 1), ask(0, 1, false), grow(1), policy(0, 1000));
        on(all).refuses(ask(0, 32, false), POLICY).says(ask(1, 1, false), 2).refuses(ask(0, 32, false), POLICY)
            .says(ask(1, 1, false), 3).refuses(ask(0, 32, false), TAKEN);
    }

    private static void codesNotGiven() {
        sentence("Terms", "NOT_GIVEN: there is no such record, or it is not GIVEN.");
        for (int r : new int[] {-1, 5, LOW, HIGH, 2, 3, 4, 200}) {
            on(states()).refuses(ask(r, 24, false), NOT_GIVEN).refuses(ask(r, 24, true), NOT_GIVEN)
                .refuses(reserve(r, TEN + ((r - 1) << 16), 24), NOT_GIVEN).refuses(grow(r), NOT_GIVEN)
                .refuses(shrink(r, true), NOT_GIVEN).refuses(shrink(r, false), NOT_GIVEN);
        }
        on().refuses(ask(0, 1, false), NOT_GIVEN).refuses(reserve(0, 0, 1), NOT_GIVEN).refuses(grow(0), NOT_GIVEN)
            .refuses(shrink(0, false), NOT_GIVEN).refuses(ask(-1, 1, false), NOT_GIVEN);
        on(states()).says(ask(0, 24, false), 5).says(ask(1, 24, false), 6);
        on(ten(), back(0)).refuses(ask(0, 9, false), NOT_GIVEN).refuses(reserve(0, TEN, 9), NOT_GIVEN);
    }

    private static void codesInOrder() {
        sentence("Terms", "CODES, of which the first that fits is answered");
        on(states()).refuses(ask(2, 16, false), NOT_GIVEN).refuses(ask(5, 33, false), NOT_GIVEN)
            .refuses(reserve(3, TEN, 16), NOT_GIVEN).refuses(reserve(-1, 1, 31), NOT_GIVEN);
        on(stairs(), quarantine(1), back(4)).refuses(ask(4, 17, false), NOT_GIVEN)
            .refuses(reserve(4, TEN, 17), NOT_GIVEN).refuses(grow(4), NOT_GIVEN);
        on(filled()).refuses(ask(0, 30, false), SHAPE).refuses(ask(0, 33, true), SHAPE)
            .refuses(reserve(0, LOW - 4, 30), SHAPE).refuses(reserve(0, LOW, 32), SHAPE)
            .refuses(reserve(0, LOW - 3, 31), SHAPE);
        on(filled(), policy(0, 1)).refuses(ask(0, 30, false), SHAPE).refuses(ask(0, 32, false), POLICY)
            .refuses(ask(0, 32, true), POLICY).refuses(ask(0, 31, true), POLICY)
            .refuses(reserve(0, LOW - 1, 32), TAKEN).says(transfer(0, 2), 4).says(transfer(1, 3), 1)
            .says(transfer(2, 3), 1).says(transfer(3, 3), 1).refuses(ask(0, 32, false), TAKEN);
        on(states()).refuses(shrink(0, true), NOT_GIVEN).refuses(grow(0), NOT_GIVEN);
    }

    private static void codeShape() {
        sentence("Terms", "SHAPE: as the call says.");
        on(ten(), reserve(0, TEN + 1, 32), give(1)).refuses(ask(0, 8, true), SHAPE).refuses(ask(1, 33, true), SHAPE)
            .refuses(reserve(0, TEN + 1, 24), SHAPE).refuses(reserve(0, 0, 24), SHAPE)
            .refuses(shrink(1, true), SHAPE).says(grow(1), 31).says(shrink(1, true), 32).has(1, TEN + 1, 32);
        on(root(0, 31, 1), ask(0, 32, false), grow(1)).refuses(grow(1), SHAPE).refuses(ask(0, 31, false), SHAPE);
    }

    private static void codeDeep() {
        sentence("Terms", "DEEP: the record has level 4.");
        on(stairs()).refuses(ask(4, 16, false), SHAPE).refuses(ask(4, 33, false), SHAPE)
            .refuses(ask(4, 17, false), DEEP).refuses(ask(4, 17, true), DEEP).refuses(reserve(4, TEN + 1, 17), SHAPE)
            .refuses(reserve(4, TEN + (1 << 16), 17), SHAPE).refuses(reserve(4, TEN, 17), DEEP)
            .says(ask(3, 17, false), 5).says(reserve(3, TEN + (3 << 16), 17), 6);
        on(crowd(200)).refuses(ask(4, 17, false), DEEP).refuses(reserve(4, TEN, 17), DEEP)
            .refuses(ask(3, 17, false), FULL);
    }

    private static void codeFull() {
        sentence("Terms", "FULL: there are 200 records.");
        on(crowd(200), policy(0, 1000), policy(3, 1000)).refuses(ask(200, 9, false), NOT_GIVEN)
            .refuses(ask(5, 17, false), NOT_GIVEN).refuses(ask(0, 8, false), SHAPE).refuses(ask(0, 33, false), SHAPE)
            .refuses(ask(0, 32, false), FULL).refuses(ask(0, 9, false), FULL).refuses(ask(3, 17, true), FULL)
            .refuses(reserve(0, TEN, 9), FULL).refuses(reserve(0, 0x0AFF0000, 16), FULL)
            .refuses(reserve(0, TEN + (1 << 22), 16), FULL).refuses(reserve(0, TEN + 1, 31), SHAPE);
        on(crowd(199)).says(ask(1, 32, false), 199).refuses(ask(1, 32, false), FULL);
        on(crowd(199)).says(reserve(1, TEN + (1 << 20), 32), 199).refuses(reserve(1, TEN + (1 << 21), 32), FULL);
    }

    private static void codePolicy() {
        sentence("Terms", "POLICY: it is not met.");
        on(crowd(199), policy(0, 1000)).refuses(ask(0, 32, false), POLICY).refuses(ask(0, 9, false), POLICY)
            .refuses(ask(0, 9, true), POLICY).refuses(ask(0, 8, false), SHAPE)
            .refuses(reserve(0, 0x0AFF0000, 16), TAKEN).says(ask(1, 32, false), 199).refuses(ask(0, 32, false), FULL);
        on(stairs(), policy(3, 1000)).refuses(ask(3, 16, false), POLICY).refuses(ask(4, 17, false), DEEP)
            .says(ask(2, 14, false), 5);
    }

    private static void codeTaken() {
        sentence("Terms", "TAKEN: as the call says.");
        on(filled()).refuses(ask(0, 32, true), TAKEN).refuses(reserve(0, LOW - 1, 32), TAKEN).refuses(grow(2), TAKEN)
            .says(reserve(1, LOW - 4, 32), 4).refuses(shrink(1, true), TAKEN).says(shrink(1, false), 32)
            .says(ask(0, 32, true), 5).has(5, LOW - 3, 32);
    }

    private static void logEntries() {
        sentence("Terms",
            "THE LOG has an ENTRY for each call that was accepted of root(), ask(), reserve(), give(), back(), grow(),"
                + " shrink(), transfer(), policy(), day(), quarantine(), in their order: the kind, 1 .. 11 in this"
                + " order, and its arguments (0 for those that it has not, 1 and 0 for true and false).");
        Call[] calls = {
            root(-256, 24, 9999), ask(0, 27, true), ask(0, 28, false), reserve(0, -1, 32), give(3), back(3), grow(2),
            shrink(2, true), shrink(2, false), transfer(2, 9998), policy(3, 1000), day(100000), quarantine(1000)};
        int[][] want = {
            {1, -256, 24, 9999}, {2, 0, 27, 1}, {2, 0, 28, 0}, {3, 0, -1, 32}, {4, 3, 0, 0}, {5, 3, 0, 0},
            {6, 2, 0, 0}, {7, 2, 1, 0}, {7, 2, 0, 0}, {8, 2, 9998, 0}, {9, 3, 1000, 0}, {10, 100000, 0, 0},
            {11, 1000, 0, 0}};
        Story story = on(calls).says(told(3), calls.length);
        for (int k = 0; k < want.length; k++) {
            for (int what = 0; what < 4; what++) {
                story.says(log(k, what), want[k][what]);
            }
        }
    }

    private static void logEntriesOfAccepted() {
        sentence("Terms", "THE LOG has an ENTRY for each call that was accepted");
        Call[] looks = {
            holderOf(TEN, 0), field(0, 1), told(0), freeAt(0, 8), blocks(0), block(0, 0, true), used(0), cuts(0),
            cut(0, 0, true), log(0, 0), replay(8), same()};
        Object[] answers = {0, 8, 5, 0, 7, 16, 3 << 16, 1, 16, 1, 5, true};
        Story story = on(states());
        for (int i = 0; i < looks.length; i++) {
            story.says(looks[i], answers[i]).says(told(3), 8);
        }
        story.says(day(0), 0).says(told(3), 9).says(policy(0, 0), DONE).says(told(3), 10).says(quarantine(5), DONE)
            .says(told(3), 11).says(transfer(0, 7), 4).says(told(3), 12).says(log(11, 0), 8);
    }

    /** A call of each kind that is accepted after written(). */
    private static Call[] eachKind() {
        return new Call[] {
            root(0, 8, 1), ask(0, 16, true), reserve(0, TEN + (1 << 20), 16), give(2), back(1), grow(5),
            shrink(1, true), transfer(0, 1), policy(0, 1), day(5), quarantine(1), ask(0, 32, false), shrink(5, false),
            back(2), day(0), quarantine(5), policy(0, 0), transfer(0, 7)};
    }

    private static void almostFullLogAccepts() {
        sentence("Terms", "When it has 300");
        Object[] want = {6, 6, 6, DONE, 5, 15, 17, 5, DONE, 1, DONE, 6, 17, 5, 0, DONE, DONE, 5};
        for (int i = 0; i < want.length; i++) {
            on(written(299)).says(eachKind()[i], want[i]).says(told(3), 300).says(log(299, 0), kindOf(i))
                .refuses(day(5), UNSUPPORTED);
        }
    }

    private static int kindOf(int i) {
        int[] kinds = {1, 2, 3, 4, 5, 6, 7, 8, 9, 10, 11, 2, 7, 5, 10, 11, 9, 8};
        return kinds[i];
    }

    private static void fullLogRefuses() {
        sentence("Terms",
            "When it has 300, each of these calls that would be accepted throws UnsupportedOperation instead.");
        on(written(300)).refusesAll(UNSUPPORTED, eachKind()).says(told(3), 300).refuses(log(300, 0), INDEX)
            .says(log(299, 0), 10).says(replay(300), 6).says(same(), true).refusesAll(UNSUPPORTED, eachKind());
        on(Collections.nCopies(300, policy(0, 1))).refuses(root(0, 0, 0), UNSUPPORTED).refuses(day(0), UNSUPPORTED)
            .says(told(0), 0);
    }

    private static void fullLogComesLast() {
        sentence("Terms", "each of these calls that would be accepted throws");
        on(written(300)).refuses(ask(9, 20, false), NOT_GIVEN).refuses(ask(0, 8, false), SHAPE)
            .refuses(reserve(0, TEN, 16), TAKEN).refuses(reserve(0, 0, 20), SHAPE).refuses(grow(0), NOT_GIVEN)
            .refuses(grow(1), TAKEN).refuses(shrink(0, true), NOT_GIVEN).refuses(root(1, 8, 0), ARGUMENT)
            .refuses(root(0, 32, 0), ARGUMENT).refuses(root(TEN, 8, 0), STATE).refuses(give(1), STATE)
            .refuses(give(6), INDEX).refuses(back(0), STATE).refuses(back(6), INDEX).refuses(transfer(6, 1), INDEX)
            .refuses(transfer(1, -1), ARGUMENT).refuses(transfer(4, 1), STATE).refuses(policy(4, 0), ARGUMENT)
            .refuses(policy(0, 1001), ARGUMENT).refuses(day(-1), ARGUMENT).refuses(day(100001), ARGUMENT)
            .refuses(quarantine(-1), ARGUMENT).refuses(quarantine(1001), ARGUMENT);
        List<Call> both = crowd(200);
        both.addAll(Collections.nCopies(100, day(0)));
        on(both).refuses(ask(0, 32, false), FULL).refuses(reserve(0, TEN + (1 << 22), 16), FULL)
            .refuses(ask(4, 17, true), DEEP).refuses(root(0, 8, 1), UNSUPPORTED).refuses(root(TEN, 8, 1), STATE);
        List<Call> unmet = then(stairs(), policy(0, 1000));
        unmet.addAll(Collections.nCopies(294, day(0)));
        on(unmet).refuses(ask(0, 10, false), POLICY).refuses(ask(1, 12, false), UNSUPPORTED)
            .refuses(ask(4, 17, false), DEEP).refuses(shrink(1, true), TAKEN).refuses(shrink(4, true), UNSUPPORTED);
    }

    private static void secondAtFirst() {
        sentence("Terms",
            "A SECOND registry is built from entries by the calls that they tell; at first it is as a new one.");
        on().says(same(), true).says(policy(3, 1), DONE).says(same(), false).says(policy(3, 0), DONE)
            .says(same(), true).says(quarantine(1), DONE).says(same(), false).says(quarantine(0), DONE)
            .says(same(), true).says(day(0), 0).says(same(), true).says(day(1), 0).says(same(), false);
        on(ten()).says(same(), false).says(back(0), 0).says(same(), false).says(replay(0), 0).says(same(), false)
            .says(replay(2), 1).says(same(), true);
    }

    private static void refusedChangesNothing() {
        sentence("Terms", "A call that throws, or answers a code, changes nothing");
        Call[] refused = {
            ask(0, 8, false), ask(2, 24, true), ask(0, 9, false), reserve(0, TEN, 16), reserve(0, TEN + 1, 24), grow(1),
            grow(0), shrink(0, true), shrink(3, false)};
        Object[] codes = {SHAPE, NOT_GIVEN, POLICY, TAKEN, SHAPE, TAKEN, NOT_GIVEN, NOT_GIVEN, NOT_GIVEN};
        Call[] thrown = {
            root(TEN, 8, 1), give(1), back(0), transfer(4, 1), root(0, 8, -1), transfer(0, -1), policy(0, -1), day(1),
            quarantine(-1), field(0, 7), freeAt(0, 33), log(0, 4), replay(-1), give(5), back(5), transfer(5, 0),
            field(5, 0), freeAt(5, 0), blocks(5), block(0, 7, true), used(5), cuts(5), cut(0, 1, true), log(10, 0)};
        String[] exceptions = {STATE, ARGUMENT, INDEX};
        int[] ends = {4, 13, thrown.length};
        for (int replayed : new int[] {0, 6, 10}) {
            Story story = on(states(), day(2), policy(0, 1), replay(replayed));
            for (int i = 0; i < refused.length; i++) {
                story.refuses(refused[i], codes[i]);
            }
            for (int i = 0; i < thrown.length; i++) {
                story.refuses(thrown[i], exceptions[i < ends[0] ? 0 : i < ends[1] ? 1 : 2]);
            }
            story.says(same(), replayed == 10).says(replay(10), 5).says(same(), true);
        }
    }

    private static void firstExceptionThatFits() {
        sentence("Terms",
            "where it names several exceptions, the first one that fits is thrown, UnsupportedOperation last.");
        on(ten()).refuses(root(TEN + 1, 8, 1), ARGUMENT).refuses(root(TEN, 32, 1), ARGUMENT)
            .refuses(root(TEN, 8, 10000), ARGUMENT).refuses(root(TEN, 8, 9999), STATE);
        on(crowd(200)).refuses(root(TEN, 8, 10000), ARGUMENT).refuses(root(1, 8, 1), ARGUMENT)
            .refuses(root(0, 0, 1), STATE).refuses(root(0, 8, 1), UNSUPPORTED);
        on(states()).refuses(transfer(5, 10000), INDEX).refuses(transfer(-1, -1), INDEX)
            .refuses(transfer(4, 10000), ARGUMENT).refuses(transfer(4, 9999), STATE)
            .refuses(field(5, 7), INDEX).refuses(field(4, 7), ARGUMENT).refuses(freeAt(5, 33), INDEX)
            .refuses(freeAt(4, 33), ARGUMENT).refuses(log(8, 4), INDEX).refuses(log(7, 4), ARGUMENT)
            .refuses(give(5), INDEX).refuses(give(4), STATE).refuses(back(5), INDEX).refuses(back(4), STATE);
    }

    private static void looksChangeNothing() {
        sentence("Not promised", "Nothing is promised beyond the answers and state changes described above");
        for (int replayed : new int[] {0, 6, 8}) {
            on(states(), policy(0, 1), replay(replayed)).keeps(holderOf(TEN, 1), 1).keeps(field(3, 6), 5)
                .keeps(told(3), 9).keeps(freeAt(0, 16), 253).keeps(blocks(0), 7).keeps(block(0, 6, true), 9)
                .keeps(used(0), 3 << 16).keeps(cuts(0), 1).keeps(cut(0, 0, false), TEN).keeps(log(8, 2), 1)
                .keeps(same(), false).keeps(replay(replayed), replayed == 0 ? 0 : 5);
        }
    }

    private static void objectsAreApart() {
        sentence("Not promised", "the answers and state changes described above");
        PrefixRegistry one = new PrefixRegistry();
        PrefixRegistry other = new PrefixRegistry();
        for (Call call : then(states(), policy(3, 9), day(3), replay(10))) {
            call.on(one);
        }
        CHECKS.due("a new object beside another", Snapshot.of(other), Snapshot.of(new PrefixRegistry()));
        root(0, 0, 1).on(other);
        CHECKS.due("an object beside a changed one", field(0, 0).on(one), TEN);
        CHECKS.due("its second registry", same().on(one), true);
    }
}
