import java.util.function.Consumer;
import java.util.function.Supplier;

/** For each promise ordinary inputs, the edges that the document names, and wrong inputs. */
public final class PromiseTest {
    private static final int NONE = PrefixRegistry.NONE, TAKEN = PrefixRegistry.TAKEN, SHAPE = PrefixRegistry.SHAPE,
        FULL = PrefixRegistry.FULL, POLICY = PrefixRegistry.POLICY, NOT_GIVEN = PrefixRegistry.NOT_GIVEN,
        DEEP = PrefixRegistry.DEEP;
    private static final int GIVEN = 1, RESERVED = 2, QUARANTINED = 3, RETURNED = 4;
    private static final int TEN = 0x0A000000;
    private static final int LOW = Integer.MIN_VALUE, HIGH = Integer.MAX_VALUE;
    private static final Class<IllegalArgumentException> ARGUMENT = IllegalArgumentException.class;
    private static final Class<IllegalStateException> STATE = IllegalStateException.class;
    private static final Class<IndexOutOfBoundsException> INDEX = IndexOutOfBoundsException.class;
    private static final Class<UnsupportedOperationException> UNSUPPORTED = UnsupportedOperationException.class;

    private static final Checks CHECKS = new Checks();

    public static void main(String[] args) {
        newObject();
        root();
        askByBestFit();
        askWithRoom();
        askCodes();
        askPolicy();
        reserve();
        give();
        back();
        grow();
        shrink();
        transfer();
        policy();
        day();
        quarantine();
        holderOf();
        field();
        told();
        freeAt();
        blocksAndBlock();
        used();
        cutsAndCut();
        log();
        replay();
        same();
        fullRecords();
        fullLog();
        CHECKS.finish("PromiseTest");
    }

    // What is refused is refused in the way that is due, and changes nothing.
    private static void refused(String what, Supplier<PrefixRegistry> setup, Class<? extends RuntimeException> want,
            Consumer<PrefixRegistry> call) {
        PrefixRegistry called = setup.get();
        CHECKS.throwsIt(what, want, () -> call.accept(called));
        CHECKS.due(what + " changes nothing", Snapshot.of(called), Snapshot.of(setup.get()));
    }

    private interface Coded {
        int on(PrefixRegistry x);
    }

    private static void coded(String what, Supplier<PrefixRegistry> setup, int want, Coded call) {
        PrefixRegistry called = setup.get();
        CHECKS.due(what, () -> call.on(called), want);
        CHECKS.due(what + " changes nothing", Snapshot.of(called), Snapshot.of(setup.get()));
    }

    private static void isRecord(String what, PrefixRegistry x, int record, int... want) {
        for (int i = 0; i < want.length; i++) {
            CHECKS.due(what + ", field " + i, x.field(record, i), want[i]);
        }
    }

    private static void isEntry(PrefixRegistry x, int entry, int... want) {
        for (int i = 0; i < want.length; i++) {
            CHECKS.due("entry " + entry + ", part " + i, x.log(entry, i), want[i]);
        }
    }

    private static PrefixRegistry ten() {
        PrefixRegistry x = new PrefixRegistry();
        x.root(TEN, 8, 7);
        return x;
    }

    /** Records 0 to 4, one below the other: the last has level 4. */
    private static PrefixRegistry stairs() {
        PrefixRegistry x = ten();
        for (int level = 1; level <= 4; level++) {
            x.ask(level - 1, 8 + 2 * level, false);
        }
        return x;
    }

    /** Below record 0 one record of each state, by number: 1 GIVEN, 2 RESERVED, 3 QUARANTINED, 4 RETURNED. */
    private static PrefixRegistry states() {
        PrefixRegistry x = ten();
        x.ask(0, 16, false);
        x.reserve(0, TEN + (1 << 16), 16);
        x.ask(0, 16, false);
        x.ask(0, 16, false);
        x.back(4);
        x.quarantine(5);
        x.back(3);
        return x;
    }

    private static void newObject() {
        PrefixRegistry x = new PrefixRegistry();
        for (int what = 0; what < 4; what++) {
            CHECKS.due("new, told " + what, x.told(what), 0);
        }
        CHECKS.throwsIt("new: no record", INDEX, () -> x.field(0, 0));
        CHECKS.throwsIt("new: no entry", INDEX, () -> x.log(0, 0));
        CHECKS.due("new: nobody holds 0", x.holderOf(0, 0), NONE);
        CHECKS.due("new: same", x.same(), true);
    }

    private static void root() {
        PrefixRegistry x = new PrefixRegistry();
        CHECKS.due("first root", x.root(LOW, 1, 0), 0);
        CHECKS.due("root beside it", x.root(0, 31, 9999), 1);
        CHECKS.due("root at the end of the low half", x.root(HIGH - 1, 31, 5), 2);
        isRecord("root 0", x, 0, LOW, 1, NONE, 0, 0, GIVEN, 0);
        isRecord("root 1", x, 1, 0, 31, NONE, 0, 9999, GIVEN, 0);
        CHECKS.due("root of all", new PrefixRegistry().root(0, 0, 0), 0);
        CHECKS.due("last root", new PrefixRegistry().root(-2, 31, 0), 0);
        int[][] wrong = {
            {0, -1, 0}, {0, 32, 0}, {0, LOW, 0}, {0, HIGH, 0}, {1, 31, 0}, {LOW, 0, 0}, {1 << 23, 8, 0},
            {0, 8, -1}, {0, 8, 10000}, {TEN, 32, 1}, {TEN + 1, 8, 1}, {TEN, 8, 10000}};
        for (int[] w : wrong) {
            refused("root" + java.util.Arrays.toString(w), PromiseTest::ten, ARGUMENT, y -> y.root(w[0], w[1], w[2]));
        }
        int[][] taken = {{TEN, 8}, {0, 0}, {TEN + (1 << 16), 16}, {0x0AFFFFFE, 31}, {8 << 24, 6}};
        for (int[] t : taken) {
            refused("root" + java.util.Arrays.toString(t), PromiseTest::ten, STATE, y -> y.root(t[0], t[1], 1));
        }
        rootAfterReturn();
    }

    private static void rootAfterReturn() {
        PrefixRegistry x = ten();
        x.quarantine(1);
        x.back(0);
        CHECKS.throwsIt("a quarantined top block is live", STATE, () -> x.root(TEN, 8, 1));
        x.day(1);
        CHECKS.due("a returned one is not", x.root(TEN, 9, 1), 1);
        PrefixRegistry y = ten();
        y.ask(0, 9, false);
        CHECKS.throwsIt("children do not hide a top block", STATE, () -> y.root(TEN, 10, 1));
    }

    private static void askByBestFit() {
        PrefixRegistry x = new PrefixRegistry();
        x.root(0, 24, 3);
        x.reserve(0, 16, 28);
        x.reserve(0, 128, 26);
        // Blocks: 0/28, 32/27, 64/26, 192/26.
        CHECKS.due("ask 27", x.ask(0, 27, false), 3);
        isRecord("the block that fits", x, 3, 32, 27, 0, 1, 3, GIVEN, 0);
        CHECKS.due("ask 30", x.ask(0, 30, false), 4);
        isRecord("the smallest block", x, 4, 0, 30);
        CHECKS.due("ask 26", x.ask(0, 26, false), 5);
        isRecord("of two the lower one", x, 5, 64, 26);
        CHECKS.due("ask 25", x.ask(0, 25, false), TAKEN);
        CHECKS.due("ask 27 again", x.ask(0, 27, false), 6);
        isRecord("a larger block is cut", x, 6, 192, 27);
        PrefixRegistry y = new PrefixRegistry();
        y.root(0, 0, 1);
        CHECKS.due("half of all", y.ask(0, 1, false), 1);
        CHECKS.due("the other half", y.ask(0, 1, false), 2);
        isRecord("by address without sign", y, 2, LOW, 1);
        CHECKS.due("no third", y.ask(0, 32, false), TAKEN);
    }

    private static void askWithRoom() {
        PrefixRegistry x = new PrefixRegistry();
        x.root(0, 24, 3);
        CHECKS.due("ask 28", x.ask(0, 28, true), 1);
        isRecord("the lowest of all", x, 1, 0, 28, 0, 1, 3, GIVEN, 0);
        x.ask(0, 28, true);
        isRecord("in the largest block", x, 2, 128, 28);
        x.ask(0, 28, true);
        isRecord("then in the next ones", x, 3, 64, 28);
        x.ask(0, 28, true);
        isRecord("of several in the lowest", x, 4, 192, 28);
        x.ask(0, 27, true);
        isRecord("as long as the blocks", x, 5, 32, 27);
        CHECKS.due("no 26", x.ask(0, 26, true), TAKEN);
        PrefixRegistry y = new PrefixRegistry();
        y.root(0, 0, 1);
        y.ask(0, 32, true);
        y.ask(0, 32, true);
        isRecord("across the sign", y, 2, LOW, 32);
    }

    private static void askCodes() {
        coded("no record 9", PromiseTest::ten, NOT_GIVEN, x -> x.ask(9, 0, true));
        coded("no record -1", PromiseTest::ten, NOT_GIVEN, x -> x.ask(-1, 16, true));
        for (int r = 2; r <= 4; r++) {
            int record = r;
            coded("ask below state " + r, PromiseTest::states, NOT_GIVEN, x -> x.ask(record, 24, false));
        }
        for (int length : new int[] {8, 7, 0, -1, 33, LOW, HIGH}) {
            coded("ask length " + length, PromiseTest::ten, SHAPE, x -> x.ask(0, length, false));
        }
        coded("below level 4", PromiseTest::stairs, DEEP, x -> x.ask(4, 20, false));
        coded("SHAPE goes before DEEP", PromiseTest::stairs, SHAPE, x -> x.ask(4, 16, false));
        coded("nothing free", PromiseTest::halved, TAKEN, x -> x.ask(0, 9, false));
        coded("nothing free, with room", PromiseTest::halved, TAKEN, x -> x.ask(0, 9, true));
    }

    private static PrefixRegistry halved() {
        PrefixRegistry x = ten();
        x.ask(0, 9, false);
        x.reserve(0, TEN + (1 << 23) + 5, 32);
        return x;
    }

    /** Record 1 has 256 addresses, of which record 2 uses 64; the policy of level 0 is one quarter. */
    private static PrefixRegistry quarter(int thousandths) {
        PrefixRegistry x = ten();
        x.ask(0, 24, false);
        x.ask(1, 26, false);
        x.policy(0, thousandths);
        return x;
    }

    private static void askPolicy() {
        CHECKS.due("just met", quarter(250).ask(0, 16, false), 3);
        coded("just not met", () -> quarter(251), POLICY, x -> x.ask(0, 16, false));
        coded("POLICY goes before TAKEN", () -> {
            PrefixRegistry x = halved();
            x.policy(0, 1);
            return x;
        }, POLICY, x -> x.ask(0, 9, true));
        PrefixRegistry other = quarter(251);
        other.transfer(1, 8);
        CHECKS.due("another holder's use does not count", other.ask(0, 16, false), 3);
        CHECKS.due("but the new one's", other.ask(0, 16, false), POLICY);
        PrefixRegistry reserved = ten();
        reserved.policy(0, 1000);
        reserved.reserve(0, TEN, 16);
        CHECKS.due("a reserved child does not count", reserved.ask(0, 16, false), 2);
        CHECKS.due("a given one does", reserved.ask(0, 16, false), POLICY);
        reserved.quarantine(3);
        reserved.back(2);
        CHECKS.due("a quarantined one does not", reserved.ask(0, 16, false), 3);
        policyOfLevels();
    }

    private static void policyOfLevels() {
        PrefixRegistry x = ten();
        x.ask(0, 16, false);
        x.ask(1, 24, false);
        x.policy(1, 1);
        CHECKS.due("level 0 is free", x.ask(0, 16, false), 3);
        CHECKS.due("level 1 is not", x.ask(1, 24, false), POLICY);
        x.reserve(2, TEN, 32);
        CHECKS.due("one of 256 is more than a thousandth", x.ask(1, 24, false), 5);
        PrefixRegistry whole = new PrefixRegistry();
        whole.root(0, 0, 1);
        whole.ask(0, 1, false);
        whole.ask(1, 2, false);
        whole.ask(1, 2, false);
        whole.policy(0, 1000);
        CHECKS.due("2^31 addresses are all used", whole.ask(0, 1, false), 4);
    }

    private static void reserve() {
        PrefixRegistry x = ten();
        CHECKS.due("reserve", x.reserve(0, TEN + (1 << 16), 16), 1);
        isRecord("reserved", x, 1, TEN + (1 << 16), 16, 0, 1, 7, RESERVED, 0);
        CHECKS.due("its sibling", x.reserve(0, TEN, 16), 2);
        CHECKS.due("the last address", x.reserve(0, 0x0AFFFFFF, 32), 3);
        x.policy(0, 1000);
        x.ask(0, 16, false);
        CHECKS.due("no policy is asked for", x.reserve(0, TEN + (1 << 20), 12), 5);
        int[][] shapes = {
            {TEN, 8}, {TEN, 33}, {TEN, -1}, {TEN, 0}, {TEN + 1, 24}, {0x0B000000, 16}, {0x09FF0000, 16}, {0, 8},
            {LOW, HIGH}, {TEN, LOW}};
        for (int[] s : shapes) {
            coded("reserve " + s[0] + "/" + s[1], PromiseTest::states, SHAPE, y -> y.reserve(0, s[0], s[1]));
        }
        for (int r : new int[] {-1, 2, 3, 4, 5}) {
            coded("reserve below " + r, PromiseTest::states, NOT_GIVEN, y -> y.reserve(r, TEN, 33));
        }
        for (int taken = 0; taken < 3; taken++) {
            int prefix = TEN + (taken << 16);
            coded("taken by state " + taken, PromiseTest::states, TAKEN, y -> y.reserve(0, prefix + 256, 24));
        }
        coded("taken in part", PromiseTest::states, TAKEN, y -> y.reserve(0, TEN, 9));
        CHECKS.due("a returned record's place is free", states().reserve(0, TEN + (3 << 16), 16), 5);
        coded("DEEP", PromiseTest::stairs, DEEP, y -> y.reserve(4, TEN, 20));
        coded("SHAPE goes before DEEP", PromiseTest::stairs, SHAPE, y -> y.reserve(4, TEN + 1, 20));
    }

    private static void give() {
        PrefixRegistry x = states();
        x.give(2);
        CHECKS.due("given", x.field(2, 5), GIVEN);
        CHECKS.due("and can be asked", x.ask(2, 24, false), 5);
        for (int r : new int[] {0, 1, 3, 4}) {
            refused("give " + r, PromiseTest::states, STATE, y -> y.give(r));
        }
        for (int r : new int[] {-1, 5, LOW, HIGH}) {
            refused("give " + r, PromiseTest::states, INDEX, y -> y.give(r));
        }
    }

    private static void back() {
        PrefixRegistry x = states();
        CHECKS.due("back of a reserved one", x.back(2), 5);
        isRecord("quarantined", x, 2, TEN + (1 << 16), 16, 0, 1, 7, QUARANTINED, 5);
        x.day(4);
        CHECKS.due("back of a given one", x.back(1), 9);
        CHECKS.due("its end", x.field(1, 6), 9);
        x.quarantine(0);
        x.reserve(0, TEN + (9 << 16), 16);
        CHECKS.due("at once", x.back(5), 4);
        isRecord("returned", x, 5, TEN + (9 << 16), 16, 0, 1, 7, RETURNED, 4);
        for (int r : new int[] {3, 4}) {
            refused("back of state " + r, PromiseTest::states, STATE, y -> y.back(r));
        }
        refused("back of a parent", PromiseTest::states, STATE, y -> y.back(0));
        for (int r : new int[] {-1, 5, LOW, HIGH}) {
            refused("back " + r, PromiseTest::states, INDEX, y -> y.back(r));
        }
        PrefixRegistry y = halved();
        y.quarantine(1);
        y.back(1);
        y.back(2);
        CHECKS.throwsIt("quarantined children are live", STATE, () -> y.back(0));
        y.day(1);
        CHECKS.due("returned ones are not", y.back(0), 2);
    }

    private static void grow() {
        PrefixRegistry x = ten();
        x.reserve(0, TEN + (3 << 16), 16);
        x.give(1);
        CHECKS.due("grow over the lower half", x.grow(1), 15);
        isRecord("grown", x, 1, TEN + (2 << 16), 15, 0, 1, 7, GIVEN, 0);
        for (int length = 14; length >= 8; length--) {
            CHECKS.due("grow to " + length, x.grow(1), length);
        }
        isRecord("as long as the parent", x, 1, TEN, 8);
        CHECKS.due("no more", x.grow(1), SHAPE);
        CHECKS.due("all is used", x.used(0), 1L << 24);
        coded("a top block", PromiseTest::ten, NOT_GIVEN, y -> y.grow(0));
        for (int r : new int[] {-1, 2, 3, 4, 5, LOW, HIGH}) {
            coded("grow " + r, PromiseTest::states, NOT_GIVEN, y -> y.grow(r));
        }
        coded("the sibling is reserved", PromiseTest::states, TAKEN, y -> y.grow(1));
        coded("the sibling is taken in part", PromiseTest::halved, TAKEN, y -> y.grow(1));
        CHECKS.due("a level 4 record may grow", stairs().grow(4), 15);
        growOfAll();
    }

    private static void growOfAll() {
        PrefixRegistry x = new PrefixRegistry();
        x.root(0, 0, 1);
        x.reserve(0, LOW, 1);
        x.give(1);
        CHECKS.due("all addresses", x.grow(1), 0);
        isRecord("all addresses", x, 1, 0, 0);
        CHECKS.due("2^32 are used", x.used(0), 1L << 32);
        CHECKS.due("no blocks", x.blocks(0), 0);
        CHECKS.due("a cut of all", x.cuts(0), 1);
        CHECKS.due("a cut of all, its length", x.cut(0, 0, true), 0);
        CHECKS.due("a child keeps its place", x.ask(1, 1, false), 2);
        CHECKS.due("which may not be lost", x.shrink(1, true), TAKEN);
        CHECKS.due("but stays", x.shrink(1, false), 1);
        CHECKS.due("as long as its parent's now", x.grow(2), SHAPE);
    }

    private static void shrink() {
        PrefixRegistry x = ten();
        x.ask(0, 30, false);
        CHECKS.due("the upper half", x.shrink(1, true), 31);
        isRecord("the upper half", x, 1, TEN + 2, 31, 0, 1, 7, GIVEN, 0);
        CHECKS.due("the lower half of it", x.shrink(1, false), 32);
        isRecord("the lower half of it", x, 1, TEN + 2, 32);
        CHECKS.due("no halves", x.shrink(1, true), SHAPE);
        CHECKS.due("no halves", x.shrink(1, false), SHAPE);
        CHECKS.due("what was lost is free", x.reserve(0, TEN, 31), 2);
        coded("a top block", PromiseTest::ten, NOT_GIVEN, y -> y.shrink(0, true));
        for (int r : new int[] {-1, 2, 3, 4, 5, LOW, HIGH}) {
            coded("shrink " + r, PromiseTest::states, NOT_GIVEN, y -> y.shrink(r, false));
        }
        coded("a child would be lost", PromiseTest::stairs, TAKEN, y -> y.shrink(2, true));
        CHECKS.due("a child that stays", stairs().shrink(2, false), 13);
        PrefixRegistry high = ten();
        high.ask(0, 16, false);
        high.reserve(1, TEN + (1 << 15), 24);
        CHECKS.due("a child of the upper half would be lost", high.shrink(1, false), TAKEN);
        CHECKS.due("and stays in it", high.shrink(1, true), 17);
        CHECKS.due("a level 4 record may shrink", stairs().shrink(4, true), 17);
        PrefixRegistry z = stairs();
        z.quarantine(2);
        z.back(4);
        CHECKS.due("a quarantined child would be lost", z.shrink(3, true), TAKEN);
        z.day(2);
        CHECKS.due("a returned one is not in the way", z.shrink(3, true), 15);
    }

    private static void transfer() {
        PrefixRegistry x = stairs();
        x.ask(0, 16, false);
        x.ask(3, 15, true);
        x.back(6);
        CHECKS.due("a tree", x.transfer(1, 9999), 4);
        int[] holders = {7, 9999, 9999, 9999, 9999, 7, 7};
        for (int r = 0; r < holders.length; r++) {
            CHECKS.due("holder of " + r, x.field(r, 4), holders[r]);
        }
        CHECKS.due("all", x.transfer(0, 0), 6);
        CHECKS.due("a leaf", x.transfer(4, 0), 1);
        PrefixRegistry y = states();
        CHECKS.due("all live states", y.transfer(0, 3), 4);
        CHECKS.due("reserved", y.transfer(2, 4), 1);
        CHECKS.due("quarantined", y.transfer(3, 5), 1);
        int[] after = {3, 3, 4, 5, 7};
        for (int r = 0; r < after.length; r++) {
            CHECKS.due("holder of state " + r, y.field(r, 4), after[r]);
        }
        refused("returned", PromiseTest::states, STATE, z -> z.transfer(4, 1));
        for (int holder : new int[] {-1, 10000, LOW, HIGH}) {
            refused("holder " + holder, PromiseTest::states, ARGUMENT, z -> z.transfer(1, holder));
            refused("the argument goes first", PromiseTest::states, ARGUMENT, z -> z.transfer(4, holder));
            refused("the index goes first", PromiseTest::states, INDEX, z -> z.transfer(5, holder));
        }
        refused("record -1", PromiseTest::states, INDEX, z -> z.transfer(-1, 1));
    }

    private static void policy() {
        int[][] wrong = {{-1, 0}, {4, 0}, {0, -1}, {0, 1001}, {LOW, HIGH}, {3, LOW}};
        for (int[] w : wrong) {
            refused("policy " + w[0] + " " + w[1], PromiseTest::states, ARGUMENT, x -> x.policy(w[0], w[1]));
        }
        for (int level = 0; level < 4; level++) {
            PrefixRegistry x = stairs();
            x.policy(level, 1000);
            x.policy(level, level);
            isEntry(x, 6, 9, level, level, 0);
        }
        PrefixRegistry y = stairs();
        y.policy(3, 1);
        CHECKS.due("level 3", y.ask(3, 20, false), POLICY);
        y.policy(3, 0);
        CHECKS.due("level 3, without", y.ask(3, 20, false), 5);
    }

    private static void day() {
        PrefixRegistry x = states();
        x.quarantine(2);
        x.back(1);
        CHECKS.due("the same day", x.day(0), 0);
        CHECKS.due("no end yet", x.day(1), 0);
        CHECKS.due("an end", x.day(2), 1);
        isRecord("returned", x, 1, TEN, 16, 0, 1, 7, RETURNED, 2);
        CHECKS.due("still quarantined", x.field(3, 5), QUARANTINED);
        CHECKS.due("an end that is over", x.day(100), 1);
        CHECKS.due("today", x.told(1), 100);
        CHECKS.due("the last day", x.day(100000), 0);
        CHECKS.due("it may be said again", x.day(100000), 0);
        for (int n : new int[] {3, -1, 100001, LOW, HIGH}) {
            refused("day " + n, () -> {
                PrefixRegistry y = states();
                y.day(4);
                return y;
            }, ARGUMENT, y -> y.day(n));
        }
        PrefixRegistry z = states();
        z.back(1);
        z.back(2);
        CHECKS.due("three ends", z.day(5), 3);
        CHECKS.due("all is free", z.blocks(0), 1);
    }

    private static void quarantine() {
        PrefixRegistry x = states();
        x.quarantine(1000);
        CHECKS.due("ends that are told stay", x.field(3, 6), 5);
        CHECKS.due("told", x.told(2), 1000);
        CHECKS.due("from now on", x.back(1), 1000);
        x.quarantine(0);
        CHECKS.due("none", x.back(2), 0);
        CHECKS.due("the quarantined ones stay", x.field(3, 5), QUARANTINED);
        for (int days : new int[] {-1, 1001, LOW, HIGH}) {
            refused("quarantine " + days, PromiseTest::states, ARGUMENT, y -> y.quarantine(days));
        }
    }

    private static void holderOf() {
        PrefixRegistry x = states();
        CHECKS.due("level 0", x.holderOf(TEN, 0), 0);
        CHECKS.due("its last address", x.holderOf(0x0AFFFFFF, 0), 0);
        CHECKS.due("behind it", x.holderOf(0x0B000000, 0), NONE);
        CHECKS.due("before it", x.holderOf(TEN - 1, 0), NONE);
        CHECKS.due("level 1", x.holderOf(TEN + 65535, 1), 1);
        CHECKS.due("reserved", x.holderOf(TEN + (1 << 16), 1), NONE);
        CHECKS.due("quarantined", x.holderOf(TEN + (2 << 16), 1), NONE);
        CHECKS.due("returned", x.holderOf(TEN + (3 << 16), 1), NONE);
        CHECKS.due("level 2", x.holderOf(TEN, 2), NONE);
        for (int level : new int[] {-1, 5, LOW, HIGH}) {
            CHECKS.due("level " + level, x.holderOf(TEN, level), NONE);
        }
        CHECKS.due("level 4", stairs().holderOf(TEN, 4), 4);
        PrefixRegistry y = new PrefixRegistry();
        y.root(LOW, 1, 5);
        CHECKS.due("-1", y.holderOf(-1, 0), 0);
        CHECKS.due("the lowest of the upper half", y.holderOf(LOW, 0), 0);
        CHECKS.due("the highest of the lower half", y.holderOf(HIGH, 0), NONE);
    }

    private static void field() {
        isRecord("level 2", stairs(), 2, TEN, 12, 1, 2, 7, GIVEN, 0);
        isRecord("a top block", stairs(), 0, TEN, 8, NONE, 0, 7, GIVEN, 0);
        isRecord("quarantined", states(), 3, TEN + (2 << 16), 16, 0, 1, 7, QUARANTINED, 5);
        for (int what : new int[] {-1, 7, LOW, HIGH}) {
            refused("field " + what, PromiseTest::states, ARGUMENT, x -> x.field(0, what));
            refused("the index goes first", PromiseTest::states, INDEX, x -> x.field(5, what));
        }
        for (int r : new int[] {-1, 5, LOW, HIGH}) {
            refused("field of " + r, PromiseTest::states, INDEX, x -> x.field(r, 0));
        }
    }

    private static void told() {
        PrefixRegistry x = states();
        x.day(3);
        int[] want = {5, 3, 5, 9};
        for (int what = 0; what < want.length; what++) {
            CHECKS.due("told " + what, x.told(what), want[what]);
        }
        for (int what : new int[] {-1, 4, LOW, HIGH}) {
            CHECKS.due("told " + what, x.told(what), NONE);
        }
    }

    private static void freeAt() {
        PrefixRegistry x = halved();
        CHECKS.due("of length 8", x.freeAt(0, 8), 0);
        CHECKS.due("of length 9", x.freeAt(0, 9), 0);
        CHECKS.due("of length 10", x.freeAt(0, 10), 1);
        CHECKS.due("of length 11", x.freeAt(0, 11), 3);
        CHECKS.due("of length 32", x.freeAt(0, 32), (1L << 23) - 1);
        CHECKS.due("of length 0", x.freeAt(0, 0), 0);
        CHECKS.due("a free record", x.freeAt(1, 9), 1);
        CHECKS.due("a free record, shorter", x.freeAt(1, 8), 0);
        CHECKS.due("a returned record", states().freeAt(4, 17), 2);
        PrefixRegistry y = new PrefixRegistry();
        y.root(0, 0, 0);
        CHECKS.due("all", y.freeAt(0, 32), 1L << 32);
        CHECKS.due("one of all", y.freeAt(0, 0), 1);
        for (int length : new int[] {-1, 33, LOW, HIGH}) {
            refused("freeAt " + length, PromiseTest::states, ARGUMENT, z -> z.freeAt(0, length));
            refused("the index goes first", PromiseTest::states, INDEX, z -> z.freeAt(5, length));
        }
        refused("freeAt of -1", PromiseTest::states, INDEX, z -> z.freeAt(-1, 8));
    }

    private static void blocksAndBlock() {
        PrefixRegistry x = new PrefixRegistry();
        x.root(LOW, 28, 1);
        x.reserve(0, LOW + 5, 32);
        x.reserve(0, LOW + 12, 31);
        int[][] want = {{0, 30}, {4, 32}, {6, 31}, {8, 30}, {14, 31}};
        CHECKS.due("blocks", x.blocks(0), want.length);
        for (int k = 0; k < want.length; k++) {
            CHECKS.due("block " + k, x.block(0, k, false), LOW + want[k][0]);
            CHECKS.due("length of block " + k, x.block(0, k, true), want[k][1]);
        }
        CHECKS.due("a free record is one", x.blocks(1), 1);
        CHECKS.due("a free record", x.block(1, 0, false), LOW + 5);
        CHECKS.due("a free record, its length", x.block(1, 0, true), 32);
        CHECKS.due("a returned record", states().block(4, 0, true), 16);
        for (int k : new int[] {-1, 5, LOW, HIGH}) {
            CHECKS.throwsIt("block " + k, INDEX, () -> x.block(0, k, true));
        }
        for (int r : new int[] {-1, 5, LOW, HIGH}) {
            refused("blocks of " + r, PromiseTest::states, INDEX, y -> y.blocks(r));
            refused("block of " + r, PromiseTest::states, INDEX, y -> y.block(r, 0, false));
        }
        PrefixRegistry all = new PrefixRegistry();
        all.root(0, 0, 1);
        CHECKS.due("the block of all", all.block(0, 0, true), 0);
        all.reserve(0, -1, 32);
        all.reserve(0, HIGH, 32);
        CHECKS.due("two gaps", all.blocks(0), 62);
        CHECKS.due("the last block", all.block(0, 61, false), -2);
        CHECKS.due("the first one behind the sign", all.block(0, 31, false), LOW);
        all.reserve(0, 0, 2);
        all.reserve(0, 1 << 30, 3);
        CHECKS.due("used at the beginning", all.block(0, 0, false), 3 << 29);
    }

    private static void used() {
        CHECKS.due("live ones", states().used(0), 3L << 16);
        CHECKS.due("none", states().used(1), 0);
        CHECKS.due("children, not theirs", stairs().used(0), 1L << 22);
        CHECKS.due("half and one", halved().used(0), (1L << 23) + 1);
        for (int r : new int[] {-1, 5, LOW, HIGH}) {
            refused("used " + r, PromiseTest::states, INDEX, x -> x.used(r));
        }
    }

    private static void cutsAndCut() {
        PrefixRegistry x = new PrefixRegistry();
        x.root(LOW, 8, 1);
        x.reserve(0, LOW + (1 << 16), 16);
        x.reserve(0, LOW + (1 << 23), 9);
        x.reserve(0, LOW + (3 << 8), 24);
        x.reserve(0, LOW, 29);
        CHECKS.due("reserved ones have none", x.cuts(0), 0);
        for (int r = 1; r <= 4; r++) {
            x.give(r);
        }
        CHECKS.due("8 + 1 + 1 + 8", x.cuts(0), 18);
        int[][] want = {{0, 0, 32}, {7, 7, 32}, {8, 3 << 8, 24}, {9, 1 << 16, 16}, {10, 1 << 23, 12},
            {17, (1 << 23) + (7 << 20), 12}};
        for (int[] w : want) {
            CHECKS.due("cut " + w[0], x.cut(0, w[0], false), LOW + w[1]);
            CHECKS.due("length of cut " + w[0], x.cut(0, w[0], true), w[2]);
        }
        for (int k : new int[] {-1, 18, LOW, HIGH}) {
            CHECKS.throwsIt("cut " + k, INDEX, () -> x.cut(0, k, true));
        }
        x.quarantine(1);
        x.back(2);
        CHECKS.due("quarantined ones have none", x.cuts(0), 10);
        CHECKS.due("a leaf has none", x.cuts(1), 0);
        for (int r : new int[] {-1, 5, LOW, HIGH}) {
            refused("cuts of " + r, PromiseTest::states, INDEX, y -> y.cuts(r));
            refused("cut of " + r, PromiseTest::states, INDEX, y -> y.cut(r, 0, false));
        }
        cutsOfLengths();
    }

    private static void cutsOfLengths() {
        int[] many = {1, 8, 4, 2};
        for (int length = 1; length <= 32; length++) {
            PrefixRegistry x = new PrefixRegistry();
            x.root(0, 0, 1);
            x.ask(0, length, false);
            int want = many[length % 4];
            CHECKS.due("cuts of length " + length, x.cuts(0), want);
            CHECKS.due("their length", x.cut(0, want - 1, true), (length + 3) / 4 * 4);
        }
    }

    private static PrefixRegistry everyKind() {
        PrefixRegistry x = new PrefixRegistry();
        x.root(LOW, 8, 7);
        x.ask(0, 16, true);
        x.reserve(0, LOW + (1 << 20), 24);
        x.give(2);
        x.grow(1);
        x.shrink(1, true);
        x.shrink(2, false);
        x.transfer(0, 12);
        x.policy(2, 30);
        x.quarantine(9);
        x.back(2);
        x.day(4);
        x.ask(0, 20, false);
        return x;
    }

    private static void log() {
        PrefixRegistry x = everyKind();
        int[][] want = {
            {1, LOW, 8, 7}, {2, 0, 16, 1}, {3, 0, LOW + (1 << 20), 24}, {4, 2, 0, 0}, {6, 1, 0, 0}, {7, 1, 1, 0},
            {7, 2, 0, 0}, {8, 0, 12, 0}, {9, 2, 30, 0}, {11, 9, 0, 0}, {5, 2, 0, 0}, {10, 4, 0, 0}, {2, 0, 20, 0}};
        CHECKS.due("entries", x.told(3), want.length);
        for (int k = 0; k < want.length; k++) {
            isEntry(x, k, want[k]);
        }
        for (int k : new int[] {-1, 13, LOW, HIGH}) {
            refused("entry " + k, PromiseTest::everyKind, INDEX, y -> y.log(k, 0));
            refused("the index goes first", PromiseTest::everyKind, INDEX, y -> y.log(k, 4));
        }
        for (int what : new int[] {-1, 4, LOW, HIGH}) {
            refused("part " + what, PromiseTest::everyKind, ARGUMENT, y -> y.log(0, what));
        }
    }

    private static void replay() {
        PrefixRegistry x = everyKind();
        int[] records = {0, 1, 2, 3, 3, 3, 3, 3, 3, 3, 3, 3, 3, 4};
        for (int k = 13; k >= 0; k--) {
            CHECKS.due("replay " + k, x.replay(k), records[k]);
            CHECKS.due("same after " + k, x.same(), k == 13);
        }
        CHECKS.due("again", x.replay(13), 4);
        CHECKS.due("again the same", x.same(), true);
        CHECKS.due("no entry for it", x.told(3), 13);
        CHECKS.due("nor a record", x.told(0), 4);
        for (int k : new int[] {-1, 14, LOW, HIGH}) {
            refused("replay " + k, () -> {
                PrefixRegistry y = everyKind();
                y.replay(13);
                return y;
            }, ARGUMENT, y -> y.replay(k));
        }
        CHECKS.due("of nothing", new PrefixRegistry().replay(0), 0);
        replayForgets();
    }

    private static void replayForgets() {
        for (int level = 0; level < 4; level++) {
            PrefixRegistry x = new PrefixRegistry();
            x.policy(level, 5);
            x.policy(level, 0);
            x.replay(1);
            CHECKS.due("a policy of level " + level, x.same(), false);
            x.replay(0);
            CHECKS.due("is forgotten", x.same(), true);
        }
        PrefixRegistry y = new PrefixRegistry();
        y.quarantine(5);
        y.quarantine(0);
        y.replay(1);
        CHECKS.due("a quarantine", y.same(), false);
        y.replay(0);
        CHECKS.due("is forgotten", y.same(), true);
    }

    private static void same() {
        CHECKS.due("new", new PrefixRegistry().same(), true);
        CHECKS.due("a record", ten().same(), false);
        differs("a record more", x -> x.ask(0, 20, false));
        differs("a prefix", x -> x.shrink(1, true));
        differs("a length", x -> x.shrink(1, false));
        differs("a holder", x -> x.transfer(2, 3));
        differs("a state", x -> x.give(2));
        differs("an end", x -> x.back(1));
        differs("today", x -> x.day(1));
        differs("quarantine", x -> x.quarantine(6));
        for (int level = 0; level < 4; level++) {
            int of = level;
            differs("policy " + level, x -> x.policy(of, 1));
        }
        PrefixRegistry top = ten();
        top.replay(1);
        top.transfer(0, 8);
        CHECKS.due("the holder of record 0", top.same(), false);
        PrefixRegistry half = states();
        half.shrink(1, true);
        half.replay(half.told(3));
        half.grow(1);
        half.shrink(1, false);
        CHECKS.due("a prefix of the same length", half.same(), false);
        PrefixRegistry y = states();
        y.replay(y.told(3));
        y.day(0);
        y.quarantine(5);
        y.policy(1, 0);
        y.transfer(1, 7);
        CHECKS.due("entries that change nothing", y.same(), true);
        y.shrink(1, true);
        y.grow(1);
        CHECKS.due("there and back", y.same(), true);
        PrefixRegistry z = new PrefixRegistry();
        z.policy(1, 5);
        CHECKS.due("a policy of no records", z.same(), false);
        z.policy(1, 0);
        CHECKS.due("the second one is new at first", z.same(), true);
    }

    private static void differs(String what, Consumer<PrefixRegistry> change) {
        PrefixRegistry x = states();
        x.replay(x.told(3));
        CHECKS.due("same before " + what, x.same(), true);
        change.accept(x);
        CHECKS.due("same after " + what, x.same(), false);
        x.replay(x.told(3));
        CHECKS.due("same after replay of " + what, x.same(), true);
    }

    /** 200 records: a top block, a level 4 one at 4, the rest of length 32 in the top block. */
    private static PrefixRegistry crowded() {
        PrefixRegistry x = stairs();
        x.reserve(0, 0x0AFF0000, 16);
        for (int n = 6; n < 200; n++) {
            x.ask(0, 32, false);
        }
        return x;
    }

    private static void fullRecords() {
        PrefixRegistry x = crowded();
        CHECKS.due("200 records", x.told(0), 200);
        CHECKS.due("the last one", x.field(199, 1), 32);
        CHECKS.due("ask", x.ask(0, 32, false), FULL);
        CHECKS.due("ask with room", x.ask(0, 32, true), FULL);
        CHECKS.due("reserve", x.reserve(0, 0x0AFE0000, 16), FULL);
        CHECKS.due("FULL goes before TAKEN", x.reserve(0, 0x0AFF0000, 16), FULL);
        CHECKS.due("FULL goes before TAKEN, ask", x.ask(0, 9, false), FULL);
        CHECKS.due("SHAPE goes before FULL", x.ask(0, 8, false), SHAPE);
        CHECKS.due("DEEP goes before FULL", x.ask(4, 20, false), DEEP);
        CHECKS.due("NOT_GIVEN goes before FULL", x.ask(200, 20, false), NOT_GIVEN);
        CHECKS.throwsIt("root", UNSUPPORTED, () -> x.root(0, 8, 1));
        CHECKS.throwsIt("its argument goes first", ARGUMENT, () -> x.root(0, 32, 1));
        CHECKS.throwsIt("its state goes first", STATE, () -> x.root(0, 0, 1));
        CHECKS.due("no entries for these", x.told(3), 200);
        x.policy(0, 1000);
        CHECKS.due("FULL goes before POLICY", x.ask(0, 32, false), FULL);
        CHECKS.due("grow needs no record", x.grow(4), 15);
        CHECKS.due("shrink needs no record", x.shrink(4, true), 16);
        x.back(199);
        CHECKS.due("returned ones are records still", x.ask(0, 32, false), FULL);
        CHECKS.due("all again", x.replay(204), 200);
        CHECKS.due("and the same", x.same(), true);
    }

    /** A log of 300 entries; record 5 could grow. */
    private static PrefixRegistry written() {
        PrefixRegistry x = states();
        x.ask(0, 16, true);
        for (int entries = 9; entries < 300; entries++) {
            x.day(0);
        }
        return x;
    }

    private static void fullLog() {
        String[] names = {"root", "ask", "reserve", "give", "back", "grow", "shrink", "transfer", "policy", "day",
            "quarantine"};
        Checks.Act[] acts = actsOn(written());
        for (int i = 0; i < acts.length; i++) {
            CHECKS.throwsIt("300 entries: " + names[i], UNSUPPORTED, acts[i]);
        }
        PrefixRegistry x = written();
        CHECKS.due("NOT_GIVEN goes first", x.ask(9, 20, false), NOT_GIVEN);
        CHECKS.due("SHAPE goes first", x.reserve(0, 0, 20), SHAPE);
        CHECKS.due("TAKEN goes first", x.grow(1), TAKEN);
        CHECKS.due("NOT_GIVEN goes first, shrink", x.shrink(0, true), NOT_GIVEN);
        CHECKS.throwsIt("root: argument first", ARGUMENT, () -> x.root(1, 8, 0));
        CHECKS.throwsIt("root: state first", STATE, () -> x.root(TEN, 8, 0));
        CHECKS.throwsIt("give: state first", STATE, () -> x.give(1));
        CHECKS.throwsIt("back: index first", INDEX, () -> x.back(6));
        CHECKS.throwsIt("transfer: argument first", ARGUMENT, () -> x.transfer(1, -1));
        CHECKS.throwsIt("policy: argument first", ARGUMENT, () -> x.policy(4, 0));
        CHECKS.throwsIt("day: argument first", ARGUMENT, () -> x.day(-1));
        CHECKS.throwsIt("quarantine: argument first", ARGUMENT, () -> x.quarantine(-1));
        CHECKS.due("300 entries", x.told(3), 300);
        CHECKS.due("the last one", x.log(299, 0), 10);
        CHECKS.due("replay of all", x.replay(300), 6);
        fullLogChangesNothing();
    }

    private static Checks.Act[] actsOn(PrefixRegistry x) {
        return new Checks.Act[] {
            () -> x.root(0, 8, 1), () -> x.ask(0, 16, true), () -> x.reserve(0, TEN + (1 << 20), 16),
            () -> x.give(2), () -> x.back(1), () -> x.grow(5), () -> x.shrink(1, true),
            () -> x.transfer(0, 1), () -> x.policy(0, 1), () -> x.day(5), () -> x.quarantine(1)};
    }

    private static void fullLogChangesNothing() {
        PrefixRegistry x = written();
        x.replay(300);
        for (Checks.Act act : actsOn(x)) {
            Checks.outcome(() -> {
                act.run();
                return "";
            });
        }
        CHECKS.due("a full log: nothing has changed", x.same(), true);
        CHECKS.due("a full log: no entry more", x.told(3), 300);
    }
}
