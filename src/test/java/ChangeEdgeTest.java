import java.util.List;

/** The boundaries that promises 1 to 12 name (a new object, and the calls that change one), sentence by sentence. */
public final class ChangeEdgeTest extends Edges {
    private static final int[] NO_RECORDS = {-1, 5, 200, LOW, HIGH};

    public static void main(String[] args) {
        newObject();
        rootMakes();
        rootLength();
        rootAlignment();
        rootHolder();
        rootAmongLiveTopBlocks();
        rootAmongDeadTopBlocks();
        rootOf200Records();
        askLength();
        askWithoutPlace();
        askByBestFit();
        askWithRoom();
        askWithRoomInsideTheRecord();
        askWithRoomBitByBit();
        askMakes();
        reserveMakes();
        reserveShape();
        reservePlace();
        reserveWithoutPolicy();
        reserveTaken();
        giveReserved();
        giveWithoutRecord();
        giveRefuses();
        backIntoQuarantine();
        backAtOnce();
        backAnswersToday();
        backWithoutRecord();
        backRefuses();
        backOfParents();
        growMakesShorter();
        growRefusesTopBlocks();
        growUpToTheParent();
        growBesideOthers();
        shrinkHalves();
        shrinkRefusesTopBlocks();
        shrinkDownTo32();
        shrinkKeepsChildren();
        transferOfTrees();
        transferWithoutRecord();
        transferWithoutHolder();
        transferOfReturned();
        policyOfLevels();
        policyRefuses();
        dayReturns();
        dayMayStay();
        dayRefuses();
        quarantineFromNowOn();
        quarantineKeepsEnds();
        quarantineRefuses();
        finish("ChangeEdgeTest");
    }

    private static void newObject() {
        sentence("Promise 1", "No records, an empty log.");
        Story story = on().says(told(0), 0).says(told(3), 0).says(same(), true).says(replay(0), 0)
            .refuses(replay(1), ARGUMENT).refuses(log(0, 0), INDEX).refuses(field(0, 0), INDEX)
            .refuses(freeAt(0, 0), INDEX).refuses(blocks(0), INDEX).refuses(block(0, 0, true), INDEX)
            .refuses(used(0), INDEX).refuses(cuts(0), INDEX).refuses(cut(0, 0, true), INDEX)
            .refuses(give(0), INDEX).refuses(back(0), INDEX).refuses(transfer(0, 0), INDEX)
            .refuses(ask(0, 32, true), NOT_GIVEN).refuses(reserve(0, 0, 32), NOT_GIVEN)
            .refuses(grow(0), NOT_GIVEN).refuses(shrink(0, true), NOT_GIVEN);
        for (int level = -1; level <= 5; level++) {
            story.says(holderOf(0, level), NONE).says(holderOf(-1, level), NONE);
        }
        on().says(day(0), 0).says(told(3), 1);
        on().says(root(0, 0, 0), 0).says(told(0), 1).says(told(3), 1);
    }

    private static void rootMakes() {
        sentence("Promise 2", "A TOP block, GIVEN: its number.");
        on(day(100000), quarantine(1000)).says(root(-2, 31, 9999), 0).has(0, -2, 31, NONE, 0, 9999, GIVEN, 0)
            .says(root(LOW, 2, 0), 1).has(1, LOW, 2, NONE, 0, 0, GIVEN, 0).says(told(0), 2).says(used(0), 0)
            .says(blocks(1), 1).says(holderOf(-1, 0), 0);
        on().refuses(root(0, 32, 0), ARGUMENT).says(root(0, 0, 0), 0).refuses(root(0, 0, 0), STATE).says(told(0), 1);
    }

    private static void rootLength() {
        sentence("Promise 2", "IllegalArgument: length is not 0 .. 31");
        on().says(root(0, 0, 1), 0).has(0, 0, 0, NONE, 0, 1, GIVEN, 0);
        on().says(root(0, 31, 1), 0).has(0, 0, 31, NONE, 0, 1, GIVEN, 0);
        for (int length : new int[] {-1, 32, 33, -32, 40, 64, LOW, HIGH}) {
            on().refuses(root(0, length, 1), ARGUMENT);
            on(ten()).refuses(root(0, length, 1), ARGUMENT).refuses(root(TEN, length, 1), ARGUMENT);
        }
    }

    private static void rootAlignment() {
        sentence("Promise 2", "the prefix is not aligned to it");
        on().refuses(root(LOW, 0, 1), ARGUMENT).refuses(root(1, 0, 1), ARGUMENT).refuses(root(-1, 0, 1), ARGUMENT);
        on().refuses(root(1 << 30, 1, 1), ARGUMENT).says(root(LOW, 1, 1), 0);
        on().refuses(root(-1, 31, 1), ARGUMENT).refuses(root(HIGH, 31, 1), ARGUMENT).says(root(-2, 31, 1), 0);
        on().refuses(root(TEN + (1 << 23), 8, 1), ARGUMENT).refuses(root(TEN + 1, 8, 1), ARGUMENT)
            .refuses(root(TEN - 1, 8, 1), ARGUMENT).says(root(TEN + (1 << 24), 8, 1), 0);
    }

    private static void rootHolder() {
        sentence("Promise 2", "or there is no such holder.");
        for (int holder : new int[] {-1, 10000, LOW, HIGH}) {
            on(ten()).refuses(root(0, 8, holder), ARGUMENT);
        }
        on(ten()).says(root(0, 8, 0), 1).says(field(1, 4), 0).says(root(1 << 24, 8, 9999), 2).says(field(2, 4), 9999);
    }

    private static void rootAmongLiveTopBlocks() {
        sentence("Promise 2", "IllegalState: a live top block has one of its addresses.");
        on(ten()).refuses(root(TEN, 8, 1), STATE).refuses(root(TEN, 9, 1), STATE).refuses(root(TEN, 31, 1), STATE)
            .refuses(root(0x0AFFFFFE, 31, 1), STATE).refuses(root(TEN, 7, 1), STATE).refuses(root(8 << 24, 6, 1), STATE)
            .refuses(root(0, 0, 1), STATE).says(root(9 << 24, 8, 1), 1).says(root(11 << 24, 8, 1), 2)
            .says(root(LOW, 1, 1), 3);
        on(root(-2, 31, 1)).refuses(root(-2, 31, 1), STATE).refuses(root(0, 0, 1), STATE)
            .refuses(root(LOW, 1, 1), STATE).says(root(0, 1, 1), 1).says(root(-4, 31, 1), 2);
        on(root(0, 31, 1)).refuses(root(0, 1, 1), STATE).says(root(2, 31, 1), 1).says(root(LOW, 1, 1), 2);
        on(root(0, 0, 1)).refuses(root(0, 0, 1), STATE).refuses(root(LOW, 1, 1), STATE)
            .refuses(root(HIGH - 1, 31, 1), STATE).refuses(root(-2, 31, 1), STATE).refuses(root(0, 31, 1), STATE);
        on(ten(), root(0, 8, 1)).refuses(root(TEN, 16, 1), STATE).refuses(root(0, 16, 1), STATE);
        on(ten(), ask(0, 9, false)).refuses(root(TEN, 9, 1), STATE).refuses(root(TEN + (1 << 23), 9, 1), STATE);
    }

    private static void rootAmongDeadTopBlocks() {
        sentence("Promise 2", "a live top block");
        on(ten(), back(0)).says(root(TEN, 8, 1), 1).refuses(root(TEN, 8, 1), STATE).says(back(1), 0)
            .says(root(8 << 24, 6, 1), 2);
        on(ten(), quarantine(1), back(0)).refuses(root(TEN, 31, 1), STATE).says(day(0), 0)
            .refuses(root(0x0AFFFFFE, 31, 1), STATE).says(day(1), 1).says(root(0x0AFFFFFE, 31, 1), 1);
    }

    private static void rootOf200Records() {
        sentence("Promise 2", "UnsupportedOperation: there are 200 records.");
        on(crowd(199)).says(root(0, 8, 1), 199).has(199, 0, 8, NONE, 0, 1, GIVEN, 0)
            .refuses(root(1 << 24, 8, 1), UNSUPPORTED);
        on(crowd(200)).refuses(root(0, 31, 0), UNSUPPORTED).refuses(root(TEN, 31, 0), STATE)
            .refuses(root(0, 32, 0), ARGUMENT);
    }

    private static void askLength() {
        sentence("Promise 3", "SHAPE: the length is not above the record's, or above 32.");
        for (boolean room : new boolean[] {false, true}) {
            for (int length : new int[] {8, 7, 0, -1, -24, 33, 41, 64, LOW, HIGH}) {
                on(ten()).refuses(ask(0, length, room), SHAPE);
            }
            on(ten()).says(ask(0, 9, room), 1).says(field(1, 1), 9).says(ask(0, 32, room), 2).says(field(2, 1), 32);
            on(root(0, 31, 1)).refuses(ask(0, 31, room), SHAPE).refuses(ask(0, 33, room), SHAPE)
                .says(ask(0, 32, room), 1).refuses(ask(1, 32, room), SHAPE).refuses(ask(1, 33, room), SHAPE)
                .refuses(ask(1, 31, room), SHAPE);
            on(root(0, 0, 1)).refuses(ask(0, 0, room), SHAPE).refuses(ask(0, -1, room), SHAPE)
                .says(ask(0, 1, room), 1);
        }
        on(ten(), ask(0, 16, false), grow(1)).refuses(ask(1, 15, false), SHAPE).says(ask(1, 16, false), 2);
        on(ten(), ask(0, 16, false), shrink(1, true)).refuses(ask(1, 17, false), SHAPE).says(ask(1, 18, false), 2);
    }

    private static void askWithoutPlace() {
        sentence("Promise 3", "TAKEN: there is no free prefix of that length inside it.");
        for (boolean room : new boolean[] {false, true}) {
            on(ten(), reserve(0, TEN, 32)).refuses(ask(0, 8, room), SHAPE).says(ask(0, 9, room), 2)
                .refuses(ask(0, 9, room), TAKEN).says(ask(0, 10, room), 3).refuses(ask(0, 10, room), TAKEN);
            on(ten(), reserve(0, TEN, 32), reserve(0, -1 >>> 8 | TEN, 32)).refuses(ask(0, 9, room), TAKEN)
                .says(ask(0, 10, room), 3).says(ask(0, 10, room), 4).refuses(ask(0, 10, room), TAKEN);
            on(filled()).refuses(ask(0, 31, room), TAKEN).refuses(ask(0, 32, room), TAKEN);
            on(filled(), back(2)).refuses(ask(0, 31, room), TAKEN).says(ask(0, 32, room), 4)
                .refuses(ask(0, 32, room), TAKEN);
            on(filled(), back(2), back(3)).says(ask(0, 31, room), 4).refuses(ask(0, 32, room), TAKEN);
            on(filled(), quarantine(1), back(3)).refuses(ask(0, 32, room), TAKEN).says(day(1), 1)
                .says(ask(0, 32, room), 4);
            on(ten(), ask(0, 9, false), grow(1)).refuses(ask(0, 9, room), TAKEN).refuses(ask(0, 32, room), TAKEN);
        }
    }

    /** Record 0 is 0/24; its blocks: 0/28, 32/27, 64/26, 192/26 (16/28 and 128/26 are reserved). */
    private static List<Call> gaps() {
        return run(root(0, 24, 3), reserve(0, 16, 28), reserve(0, 128, 26));
    }

    private static void askByBestFit() {
        sentence("Promise 3",
            "Without room it is at the beginning of the block with the greatest length that is not above the one"
                + " asked for, of several of the lowest one");
        int[][] asked = {{32, 0}, {29, 0}, {28, 0}, {27, 32}, {26, 64}};
        for (int[] a : asked) {
            on(gaps()).says(ask(0, a[0], false), 3).has(3, a[1], a[0]);
        }
        on(gaps()).refuses(ask(0, 25, false), TAKEN).says(ask(0, 26, false), 3).says(ask(0, 26, false), 4)
            .has(4, 192, 26).refuses(ask(0, 26, false), TAKEN).says(ask(0, 28, false), 5).has(5, 0, 28)
            .says(ask(0, 28, false), 6).has(6, 32, 28).says(ask(0, 28, false), 7).has(7, 48, 28)
            .refuses(ask(0, 32, false), TAKEN);
        on(root(0, 0, 1), ask(0, 32, false)).says(ask(0, 32, false), 2).has(2, 1, 32).says(ask(0, 31, false), 3)
            .has(3, 2, 31).says(ask(0, 1, false), 4).has(4, LOW, 1);
        on(root(0, 0, 1), reserve(0, -1, 32)).says(ask(0, 32, false), 2).has(2, -2, 32).says(ask(0, 31, false), 3)
            .has(3, -4, 31).says(ask(0, 1, false), 4).has(4, 0, 1);
    }

    private static void askWithRoom() {
        sentence("Promise 3", "the one with the longest chain, of several the lowest one.");
        int[][] asked = {{32, 64}, {29, 64}, {28, 64}, {27, 64}, {26, 64}};
        for (int[] a : asked) {
            on(gaps()).says(ask(0, a[0], true), 3).has(3, a[1], a[0]);
        }
        on(gaps()).refuses(ask(0, 25, true), TAKEN).says(ask(0, 27, true), 3).says(ask(0, 27, true), 4)
            .has(4, 192, 27).says(ask(0, 27, true), 5).has(5, 32, 27).says(ask(0, 27, true), 6).has(6, 96, 27)
            .says(ask(0, 27, true), 7).has(7, 224, 27).refuses(ask(0, 27, true), TAKEN)
            .says(ask(0, 32, true), 8).has(8, 0, 32);
        on(root(0, 0, 1), ask(0, 32, true)).says(ask(0, 32, true), 2).has(2, LOW, 32).says(ask(0, 32, true), 3)
            .has(3, 1 << 30, 32).says(ask(0, 32, true), 4).has(4, LOW + (1 << 30), 32).refuses(ask(0, 1, true), TAKEN);
        on(root(0, 0, 1), reserve(0, -1, 32)).says(ask(0, 32, true), 2).has(2, 0, 32);
    }

    private static void askWithRoomInsideTheRecord() {
        sentence("Promise 3",
            "with room: for each free prefix of the length inside the record let its chain be how often, from it"
                + " upward, the sibling is free and inside the record");
        on(root(LOW - 256, 24, 1), reserve(0, LOW - 256, 25)).says(ask(0, 26, true), 2).has(2, LOW - 128, 26)
            .says(ask(0, 27, true), 3).has(3, LOW - 64, 27);
        on(ten(), ask(0, 10, false)).says(ask(1, 11, true), 2).has(2, TEN, 11).says(ask(1, 32, true), 3)
            .has(3, TEN + (1 << 21), 32);
        on(root(-2, 31, 1)).says(ask(0, 32, true), 1).has(1, -2, 32).says(ask(0, 32, true), 2).has(2, -1, 32)
            .refuses(ask(0, 32, true), TAKEN);
        on(ten()).says(ask(0, 32, true), 1).has(1, TEN, 32);
    }

    private static void askWithRoomBitByBit() {
        sentence("Promise 3", "(then that of the prefix one bit shorter, and so on)");
        // Blocks 0/28, 32/27, 64/27: chains of 1, 2 and 2.
        on(root(0, 25, 1), reserve(0, 16, 28), reserve(0, 96, 27)).says(ask(0, 29, true), 3).has(3, 32, 29)
            .says(ask(0, 29, true), 4).has(4, 64, 29);
        on(root(0, 24, 1), reserve(0, 0, 29), reserve(0, 128, 25)).says(ask(0, 29, true), 3).has(3, 64, 29)
            .says(ask(0, 29, true), 4).has(4, 32, 29).says(ask(0, 29, true), 5).has(5, 96, 29)
            .says(ask(0, 29, true), 6).has(6, 16, 29).says(ask(0, 29, true), 7).has(7, 48, 29);
    }

    private static void askMakes() {
        sentence("Promise 3", "A record below another one, GIVEN, with its holder: the number, or a code.");
        for (boolean room : new boolean[] {false, true}) {
            on(stairs(), day(4)).says(ask(3, 32, room), 5)
                .has(5, TEN + ((room ? 2 : 1) << 16), 32, 3, 4, 7, GIVEN, 0);
            on(stairs(), transfer(3, 9999)).says(ask(3, 16, room), 5).says(field(5, 4), 9999)
                .says(ask(2, 14, room), 6).says(field(6, 4), 7);
            on(stairs()).refuses(ask(5, 17, room), NOT_GIVEN).refuses(ask(-1, 17, room), NOT_GIVEN);
        }
    }

    private static void reserveMakes() {
        sentence("Promise 4",
            "A record below another one, RESERVED, with its holder: the number, or a code (not POLICY).");
        on(stairs(), day(4)).says(reserve(3, TEN + (3 << 16), 16), 5)
            .has(5, TEN + (3 << 16), 16, 3, 4, 7, RESERVED, 0);
        on(stairs(), transfer(0, 0)).says(reserve(0, 0x0AFFFFFF, 32), 5).has(5, 0x0AFFFFFF, 32, 0, 1, 0, RESERVED, 0);
    }

    private static void reserveShape() {
        sentence("Promise 4", "SHAPE: as for ask(), or the prefix is not aligned to the length");
        for (int length : new int[] {8, 7, 0, -1, -24, 33, 40, 64, LOW, HIGH}) {
            on(ten()).refuses(reserve(0, TEN, length), SHAPE);
        }
        on(ten()).says(reserve(0, TEN, 9), 1).says(reserve(0, 0x0AFFFFFF, 32), 2);
        on(ten()).refuses(reserve(0, TEN + 1, 31), SHAPE).refuses(reserve(0, TEN + 1, 9), SHAPE)
            .refuses(reserve(0, TEN + (1 << 22), 9), SHAPE).refuses(reserve(0, 0x0AFFFFFF, 31), SHAPE)
            .says(reserve(0, TEN + 1, 32), 1).says(reserve(0, TEN + 2, 31), 2).says(reserve(0, TEN + (1 << 23), 9), 3);
        on(root(0, 31, 1), ask(0, 32, false)).refuses(reserve(1, 0, 32), SHAPE).refuses(reserve(1, 0, 33), SHAPE);
        on(root(0, 0, 1)).refuses(reserve(0, 0, 0), SHAPE).says(reserve(0, LOW, 1), 1);
    }

    private static void reservePlace() {
        sentence("Promise 4", "or does not lie inside the record.");
        on(ten()).refuses(reserve(0, TEN - 256, 24), SHAPE).refuses(reserve(0, 0x0B000000, 24), SHAPE)
            .refuses(reserve(0, TEN - 1, 32), SHAPE).refuses(reserve(0, 0x0B000000, 32), SHAPE)
            .refuses(reserve(0, LOW + TEN, 24), SHAPE).refuses(reserve(0, 0, 9), SHAPE)
            .refuses(reserve(0, -1, 32), SHAPE).refuses(reserve(0, 8 << 24, 6), SHAPE)
            .says(reserve(0, TEN, 24), 1).says(reserve(0, 0x0AFFFF00, 24), 2);
        on(stairs()).refuses(reserve(1, TEN + (1 << 22), 16), SHAPE)
            .says(reserve(1, TEN + (1 << 22) - (1 << 16), 16), 5);
        on(ten(), ask(0, 16, false), shrink(1, true)).refuses(reserve(1, TEN, 24), SHAPE)
            .says(reserve(1, TEN + (1 << 15), 24), 2);
        on(root(LOW, 1, 1)).refuses(reserve(0, 0, 2), SHAPE).refuses(reserve(0, HIGH, 32), SHAPE)
            .says(reserve(0, -1, 32), 1).says(reserve(0, LOW, 2), 2);
        on(root(0, 1, 1)).refuses(reserve(0, LOW, 2), SHAPE).refuses(reserve(0, -1, 32), SHAPE)
            .says(reserve(0, HIGH, 32), 1).says(reserve(0, 0, 2), 2);
    }

    private static void reserveWithoutPolicy() {
        sentence("Promise 4", "or a code (not POLICY)");
        on(stairs(), policy(0, 1000), policy(3, 1000)).refuses(ask(0, 32, false), POLICY)
            .says(reserve(0, 0x0AFF0000, 16), 5).refuses(ask(3, 32, false), POLICY)
            .says(reserve(3, TEN + (1 << 16), 16), 6).refuses(reserve(0, TEN, 10), TAKEN);
    }

    private static void reserveTaken() {
        sentence("Promise 4", "TAKEN: it is not free.");
        int place = TEN + (2 << 16);
        on(ten(), reserve(0, place, 16)).refuses(reserve(0, place, 16), TAKEN).refuses(reserve(0, place, 15), TAKEN)
            .refuses(reserve(0, TEN, 9), TAKEN).refuses(reserve(0, place, 17), TAKEN)
            .refuses(reserve(0, place, 32), TAKEN).refuses(reserve(0, place + 65535, 32), TAKEN)
            .says(reserve(0, place - 1, 32), 2).says(reserve(0, place + 65536, 32), 3);
        on(filled()).refuses(reserve(0, LOW - 4, 31), TAKEN).refuses(reserve(0, LOW - 1, 32), TAKEN)
            .refuses(reserve(0, LOW - 2, 32), TAKEN).says(back(3), 0).refuses(reserve(0, LOW - 2, 31), TAKEN)
            .says(reserve(0, LOW - 1, 32), 4).refuses(reserve(0, LOW - 1, 32), TAKEN);
        on(states()).refuses(reserve(0, TEN + (2 << 16), 32), TAKEN).says(day(5), 1)
            .says(reserve(0, TEN + (2 << 16), 15), 5);
        on(stairs()).refuses(reserve(2, TEN, 14), TAKEN).says(reserve(2, TEN + (1 << 18), 14), 5);
    }

    private static void giveReserved() {
        sentence("Promise 5", "A reserved record is GIVEN.");
        on(states(), day(2)).says(give(2), DONE).has(2, TEN + (1 << 16), 16, 0, 1, 7, GIVEN, 0)
            .says(holderOf(TEN + (1 << 16), 1), 2).refuses(give(2), STATE);
        on(crowd(199), reserve(0, 0x0AFD0000, 16)).says(give(199), DONE).says(field(199, 5), GIVEN)
            .refuses(give(199), STATE).refuses(give(200), INDEX);
    }

    private static void giveWithoutRecord() {
        sentence("Promise 5", "IndexOutOfBounds: there is no such record.");
        for (int r : NO_RECORDS) {
            on(states()).refuses(give(r), INDEX);
        }
        on().refuses(give(0), INDEX);
        on(ten()).refuses(give(1), INDEX).says(reserve(0, TEN, 9), 1).says(give(1), DONE);
    }

    private static void giveRefuses() {
        sentence("Promise 5", "IllegalState: it is not RESERVED.");
        on(states()).refuses(give(0), STATE).refuses(give(1), STATE).refuses(give(3), STATE).refuses(give(4), STATE)
            .says(back(2), 5).refuses(give(2), STATE).says(day(5), 2).refuses(give(2), STATE);
    }

    private static void backIntoQuarantine() {
        sentence("Promise 6",
            "A record is QUARANTINED: its END is today and the days of quarantine, which is answered");
        on(states()).says(back(1), 5).has(1, TEN, 16, 0, 1, 7, QUARANTINED, 5).says(back(2), 5)
            .says(field(2, 5), QUARANTINED);
        on(ten(), quarantine(1)).says(back(0), 1).has(0, TEN, 8, NONE, 0, 7, QUARANTINED, 1);
        on(ten(), quarantine(1000), day(100000)).says(back(0), 101000).says(field(0, 6), 101000)
            .says(field(0, 5), QUARANTINED).says(day(100000), 0).says(field(0, 5), QUARANTINED);
        on(ten(), quarantine(1), day(99999)).says(back(0), 100000).says(day(99999), 0).says(day(100000), 1);
    }

    private static void backAtOnce() {
        sentence("Promise 6", "without such days it is RETURNED at once.");
        on(ten()).says(back(0), 0).has(0, TEN, 8, NONE, 0, 7, RETURNED, 0);
        on(states(), quarantine(0), day(3)).says(back(2), 3).has(2, TEN + (1 << 16), 16, 0, 1, 7, RETURNED, 3)
            .says(day(3), 0).says(freeAt(0, 16), 256 - 2);
        on(filled()).says(back(3), 0).says(back(2), 0).says(back(1), 0).says(blocks(0), 1).says(block(0, 0, true), 30)
            .says(back(0), 0).says(used(0), 0);
    }

    private static void backAnswersToday() {
        sentence("Promise 6", "(Then today is answered, which is its END.)");
        on(ten()).says(back(0), 0).says(field(0, 6), 0);
        on(ten(), day(100000)).says(back(0), 100000).has(0, TEN, 8, NONE, 0, 7, RETURNED, 100000);
        on(ten(), quarantine(9), day(1), quarantine(0)).says(back(0), 1).says(field(0, 6), 1).says(day(2), 0)
            .says(field(0, 6), 1);
    }

    private static void backWithoutRecord() {
        sentence("Promise 6", "IndexOutOfBounds: there is no such record.");
        for (int r : NO_RECORDS) {
            on(states()).refuses(back(r), INDEX);
        }
        on().refuses(back(0), INDEX);
        on(crowd(200)).refuses(back(200), INDEX).says(back(199), 0);
    }

    private static void backRefuses() {
        sentence("Promise 6", "IllegalState: it is neither GIVEN nor RESERVED");
        on(states()).refuses(back(3), STATE).refuses(back(4), STATE).says(back(1), 5).refuses(back(1), STATE)
            .says(day(5), 2).refuses(back(1), STATE).refuses(back(3), STATE);
    }

    private static void backOfParents() {
        sentence("Promise 6", "or is the parent of a live one.");
        on(ten(), ask(0, 32, false)).refuses(back(0), STATE).says(back(1), 0).says(back(0), 0);
        on(ten(), reserve(0, 0x0AFFFFFF, 32)).refuses(back(0), STATE).says(back(1), 0).says(back(0), 0);
        on(ten(), ask(0, 32, false), quarantine(1), back(1)).refuses(back(0), STATE).says(day(1), 1)
            .says(back(0), 2);
        on(stairs()).refuses(back(0), STATE).refuses(back(1), STATE).refuses(back(2), STATE).refuses(back(3), STATE)
            .says(back(4), 0).refuses(back(2), STATE).says(back(3), 0).says(back(2), 0).says(back(1), 0)
            .says(back(0), 0);
        on(filled(), back(1), back(2)).refuses(back(0), STATE).says(back(3), 0).says(back(0), 0);
        on(filled(), back(3), back(2)).refuses(back(0), STATE).says(back(1), 0).says(back(0), 0);
    }

    private static void growMakesShorter() {
        sentence("Promise 7", "A record's prefix becomes the one that is a bit shorter: its length, or a code.");
        on(ten(), reserve(0, TEN + (3 << 16), 16), give(1)).says(grow(1), 15)
            .has(1, TEN + (2 << 16), 15, 0, 1, 7, GIVEN, 0).says(grow(1), 14).has(1, TEN, 14)
            .says(holderOf(TEN, 1), 1).says(used(0), 1 << 18);
        on(root(0, 0, 1), reserve(0, -1, 32), give(1)).says(grow(1), 31).has(1, -2, 31);
        on(root(0, 0, 1), reserve(0, LOW, 1), give(1)).says(grow(1), 0).has(1, 0, 0).says(used(0), 1L << 32);
        on(stairs(), ask(3, 16, true)).says(grow(5), 15).has(5, TEN + (1 << 17), 15, 3, 4).says(grow(4), 15)
            .refuses(grow(4), TAKEN).refuses(grow(5), TAKEN);
    }

    private static void growRefusesTopBlocks() {
        sentence("Promise 7", "NOT_GIVEN: also for a top block.");
        on(ten()).refuses(grow(0), NOT_GIVEN);
        on(root(0, 0, 1)).refuses(grow(0), NOT_GIVEN);
        on(root(0, 31, 1)).refuses(grow(0), NOT_GIVEN);
        for (int r : NO_RECORDS) {
            on(states()).refuses(grow(r), NOT_GIVEN);
        }
        on(states()).refuses(grow(2), NOT_GIVEN).refuses(grow(3), NOT_GIVEN).refuses(grow(4), NOT_GIVEN);
    }

    private static void growUpToTheParent() {
        sentence("Promise 7", "SHAPE: it is as long as its parent's.");
        on(ten(), ask(0, 10, false)).says(grow(1), 9).says(grow(1), 8).refuses(grow(1), SHAPE).has(1, TEN, 8);
        on(root(-2, 31, 1), ask(0, 32, false)).says(grow(1), 31).refuses(grow(1), SHAPE);
        on(root(0, 0, 1), ask(0, 1, false)).says(grow(1), 0).refuses(grow(1), SHAPE);
        on(stairs(), grow(4), grow(4)).refuses(grow(4), SHAPE).says(grow(3), 13).says(grow(4), 13)
            .refuses(grow(4), SHAPE);
        on(ten(), ask(0, 16, false), ask(1, 17, false), shrink(1, false)).refuses(grow(2), SHAPE);
    }

    private static void growBesideOthers() {
        sentence("Promise 7", "TAKEN: its sibling is not free in the parent.");
        List<Call> one = then(ten(), ask(0, 16, false));
        int sibling = TEN + (1 << 16);
        on(one, reserve(0, sibling, 32)).refuses(grow(1), TAKEN).says(back(2), 0).says(grow(1), 15);
        on(one, reserve(0, sibling + 65535, 32)).refuses(grow(1), TAKEN);
        on(one, reserve(0, sibling, 16)).refuses(grow(1), TAKEN);
        on(one, reserve(0, sibling + 65536, 32)).says(grow(1), 15).refuses(grow(1), TAKEN);
        on(one, ask(0, 16, false), quarantine(2), back(2)).refuses(grow(1), TAKEN).says(day(1), 0)
            .refuses(grow(1), TAKEN).says(day(2), 1).says(grow(1), 15);
        on(one, ask(1, 17, false), ask(1, 17, false)).says(grow(1), 15).says(blocks(1), 1);
        on(ten(), reserve(0, sibling, 16), give(1), reserve(0, TEN, 32)).refuses(grow(1), TAKEN);
        on(ten(), reserve(0, sibling, 16), give(1), reserve(0, TEN + 65535, 32)).refuses(grow(1), TAKEN);
        on(ten(), reserve(0, sibling, 16), give(1), reserve(0, sibling + 65536, 32)).says(grow(1), 15);
    }

    private static void shrinkHalves() {
        sentence("Promise 8", "A record's prefix becomes its upper half, or its lower one: its length, or a code.");
        on(stairs()).says(shrink(4, true), 17).has(4, TEN + (1 << 15), 17, 3, 4, 7, GIVEN, 0);
        on(stairs()).says(shrink(4, false), 17).has(4, TEN, 17, 3, 4, 7, GIVEN, 0);
        List<Call> all = run(root(0, 0, 1), ask(0, 1, false), grow(1));
        on(all).says(shrink(1, true), 1).has(1, LOW, 1).says(holderOf(HIGH, 1), NONE).says(holderOf(LOW, 1), 1)
            .says(holderOf(-1, 1), 1).says(shrink(1, true), 2).has(1, LOW + (1 << 30), 2);
        on(all).says(shrink(1, false), 1).has(1, 0, 1).says(holderOf(HIGH, 1), 1).says(holderOf(LOW, 1), NONE)
            .says(ask(0, 1, false), 2).has(2, LOW, 1);
    }

    private static void shrinkRefusesTopBlocks() {
        sentence("Promise 8", "NOT_GIVEN: also for a top block.");
        for (boolean upper : new boolean[] {false, true}) {
            on(ten()).refuses(shrink(0, upper), NOT_GIVEN);
            on(root(0, 0, 1)).refuses(shrink(0, upper), NOT_GIVEN);
            on(root(0, 31, 1)).refuses(shrink(0, upper), NOT_GIVEN);
            for (int r : NO_RECORDS) {
                on(states()).refuses(shrink(r, upper), NOT_GIVEN);
            }
            on(states()).refuses(shrink(2, upper), NOT_GIVEN).refuses(shrink(3, upper), NOT_GIVEN)
                .refuses(shrink(4, upper), NOT_GIVEN);
        }
    }

    private static void shrinkDownTo32() {
        sentence("Promise 8", "SHAPE: its length is 32.");
        int address = 0x5555AAAA;
        Story story = on(root(0, 0, 1), ask(0, 1, false));
        for (int n = 2; n <= 32; n++) {
            boolean upper = (address >>> (32 - n) & 1) == 1;
            story.says(shrink(1, upper), n).has(1, address & -sizeOf(n), n);
        }
        story.refuses(shrink(1, true), SHAPE).refuses(shrink(1, false), SHAPE);
        on(root(-2, 31, 1), ask(0, 32, false), grow(1)).says(shrink(1, true), 32).has(1, -1, 32)
            .refuses(shrink(1, true), SHAPE).refuses(shrink(1, false), SHAPE);
    }

    private static void shrinkKeepsChildren() {
        sentence("Promise 8", "TAKEN: a live record whose parent it is has an address that would be lost.");
        List<Call> one = then(ten(), ask(0, 16, false));
        int middle = TEN + (1 << 15);
        int[][] places = {{TEN, 0}, {middle - 1, 0}, {middle, 1}, {TEN + 65535, 1}};
        for (int[] p : places) {
            boolean above = p[1] == 1;
            on(one, reserve(1, p[0], 32)).refuses(shrink(1, !above), TAKEN).says(shrink(1, above), 17);
            on(one, reserve(1, p[0], 32), quarantine(1), back(2)).refuses(shrink(1, !above), TAKEN).says(day(1), 1)
                .says(shrink(1, !above), 17);
            on(one, reserve(1, p[0], 32), back(2)).says(shrink(1, !above), 17);
        }
        on(one, ask(1, 17, false), grow(2)).refuses(shrink(1, true), TAKEN).refuses(shrink(1, false), TAKEN);
        on(one, ask(1, 17, false), ask(1, 17, false)).refuses(shrink(1, true), TAKEN).refuses(shrink(1, false), TAKEN)
            .says(back(2), 0).says(shrink(1, true), 17).has(1, middle, 17).says(blocks(1), 0);
        on(one, ask(0, 16, false)).says(shrink(1, true), 17).says(shrink(2, false), 17);
    }

    private static void transferOfTrees() {
        sentence("Promise 9",
            "A record, and all live ones whose parent, or whose parent's parent and so on it is, have a holder:"
                + " how many records.");
        for (int r = 0; r <= 4; r++) {
            Story story = on(stairs()).says(transfer(r, 9999), 5 - r);
            for (int other = 0; other <= 4; other++) {
                story.says(field(other, 4), other < r ? 7 : 9999);
            }
        }
        on(states()).says(transfer(0, 0), 4).says(field(1, 4), 0).says(field(2, 4), 0).says(field(3, 4), 0)
            .says(field(4, 4), 7).says(transfer(3, 5), 1).says(field(0, 4), 0).says(transfer(0, 0), 4);
        on(crowd(200)).says(transfer(0, 1), 200).says(field(199, 4), 1).says(transfer(199, 2), 1)
            .says(field(198, 4), 1).says(transfer(1, 3), 4).says(field(5, 4), 1);
        on(ten(), root(0, 8, 3)).says(transfer(0, 1), 1).says(field(1, 4), 3).says(transfer(1, 1), 1);
        on(ten(), ask(0, 16, false), ask(1, 24, false), back(2)).says(transfer(1, 3), 1).says(field(2, 4), 7);
    }

    private static void transferWithoutRecord() {
        sentence("Promise 9", "IndexOutOfBounds: there is no such record.");
        for (int r : NO_RECORDS) {
            on(states()).refuses(transfer(r, 1), INDEX).refuses(transfer(r, -1), INDEX);
        }
        on().refuses(transfer(0, 0), INDEX);
        on(ten()).refuses(transfer(1, 0), INDEX).says(transfer(0, 0), 1);
    }

    private static void transferWithoutHolder() {
        sentence("Promise 9", "IllegalArgument: no such holder.");
        for (int holder : new int[] {-1, 10000, LOW, HIGH}) {
            on(states()).refuses(transfer(0, holder), ARGUMENT).refuses(transfer(4, holder), ARGUMENT);
        }
        on(states()).says(transfer(3, 0), 1).says(field(3, 4), 0).says(transfer(2, 9999), 1).says(field(2, 4), 9999);
    }

    private static void transferOfReturned() {
        sentence("Promise 9", "IllegalState: it is RETURNED.");
        on(states()).refuses(transfer(4, 7), STATE).refuses(transfer(4, 0), STATE).says(transfer(3, 0), 1)
            .says(day(4), 0).says(transfer(3, 1), 1).says(day(5), 1).refuses(transfer(3, 2), STATE)
            .says(field(3, 4), 1);
        on(ten(), back(0)).refuses(transfer(0, 7), STATE);
    }

    private static void policyOfLevels() {
        sentence("Promise 10", "The POLICY of a level.");
        for (int level = 0; level <= 3; level++) {
            int length = 10 + 2 * level;
            on(stairs(), policy(level, 1000)).refuses(ask(level, length, false), POLICY)
                .says(policy(level, 0), DONE).says(ask(level, length, false), 5);
            on(stairs(), policy(level, 251)).refuses(ask(level, length, false), POLICY);
        }
        for (int level = 0; level <= 2; level++) {
            int length = 10 + 2 * level;
            on(stairs(), policy(level, 250)).says(ask(level, length, false), 5);
            on(stairs(), policy(level, 1000), policy(level, 250)).says(ask(level, length, false), 5);
        }
        on(stairs(), policy(3, 1)).refuses(ask(3, 16, false), POLICY).says(policy(3, 0), DONE)
            .says(ask(3, 16, false), 5);
    }

    private static void policyRefuses() {
        sentence("Promise 10", "IllegalArgument: there is no such level or policy.");
        for (int level : new int[] {-1, 4, 5, LOW, HIGH}) {
            on(stairs()).refuses(policy(level, 0), ARGUMENT).refuses(policy(level, 1000), ARGUMENT);
        }
        for (int thousandths : new int[] {-1, 1001, LOW, HIGH}) {
            on(stairs(), policy(0, 7)).refuses(policy(0, thousandths), ARGUMENT)
                .refuses(policy(3, thousandths), ARGUMENT);
        }
        on().says(policy(0, 0), DONE).says(policy(0, 1000), DONE).says(policy(3, 0), DONE).says(policy(3, 1000), DONE)
            .says(told(3), 4);
    }

    private static void dayReturns() {
        sentence("Promise 11", "TODAY is n: all QUARANTINED records with an END not above it are RETURNED; how many.");
        on(states()).says(day(4), 0).says(field(3, 5), QUARANTINED).says(told(1), 4).says(day(5), 1)
            .has(3, TEN + (2 << 16), 16, 0, 1, 7, RETURNED, 5).says(day(6), 0);
        on(states()).says(day(6), 1).says(field(3, 5), RETURNED).says(field(3, 6), 5);
        on(states(), back(1), day(1), back(2)).says(day(4), 0).says(day(5), 2).says(field(2, 5), QUARANTINED)
            .says(day(6), 1).says(field(2, 5), RETURNED).says(blocks(0), 1).says(back(0), 11);
        on(states(), back(1), back(2)).says(day(100000), 3).says(day(100000), 0).says(used(0), 0);
    }

    private static void dayMayStay() {
        sentence("Promise 11", "(n may be what it is.)");
        on(states()).says(day(0), 0).says(day(0), 0).says(told(1), 0).says(told(3), 10);
        on(states(), day(3)).says(day(3), 0).says(field(3, 5), QUARANTINED).refuses(day(2), ARGUMENT);
        on(day(100000)).says(day(100000), 0).refuses(day(99999), ARGUMENT);
    }

    private static void dayRefuses() {
        sentence("Promise 11", "IllegalArgument: n is below today, or above 100000.");
        for (int n : new int[] {-1, 100001, LOW, HIGH}) {
            on(states()).refuses(day(n), ARGUMENT);
        }
        on(states(), day(4)).refuses(day(3), ARGUMENT).refuses(day(0), ARGUMENT).refuses(day(100001), ARGUMENT)
            .says(day(4), 0).says(day(100000), 1).refuses(day(100001), ARGUMENT).refuses(day(99999), ARGUMENT);
    }

    private static void quarantineFromNowOn() {
        sentence("Promise 12", "The days of QUARANTINE from now on.");
        on(states()).says(quarantine(1000), DONE).says(told(2), 1000).says(field(3, 6), 5).says(back(1), 1000)
            .says(quarantine(0), DONE).says(told(2), 0).says(field(1, 6), 1000).says(field(3, 5), QUARANTINED)
            .says(back(2), 0).says(field(2, 5), RETURNED).says(day(5), 1).says(field(1, 5), QUARANTINED)
            .says(day(999), 0).says(day(1000), 1);
        on(states(), quarantine(1)).says(back(1), 1).says(day(1), 1).says(field(3, 5), QUARANTINED);
    }

    private static void quarantineKeepsEnds() {
        sentence("Promise 12", "(ENDS that are told stay.)");
        for (int days : new int[] {0, 1, 1000}) {
            on(states(), quarantine(days)).says(field(3, 5), QUARANTINED).says(field(3, 6), 5).says(day(4), 0)
                .says(field(3, 5), QUARANTINED).says(day(5), 1).says(field(3, 6), 5).says(field(4, 6), 0);
        }
    }

    private static void quarantineRefuses() {
        sentence("Promise 12", "IllegalArgument: not 0 .. 1000.");
        for (int days : new int[] {-1, 1001, LOW, HIGH}) {
            on(states()).refuses(quarantine(days), ARGUMENT);
        }
        on().says(quarantine(1000), DONE).says(told(2), 1000).says(quarantine(0), DONE).says(told(2), 0);
    }
}
