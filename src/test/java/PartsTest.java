/** Promise 3 (part). */
public final class PartsTest {
    private static final Check CHECK = new Check("PartsTest");

    public static void main(String[] args) {
        everyLengthIsCutIntoChunks();
        bytesBehindTheEndAreNotLookedAt();
        alikeChunksAreKeptOnce();
        chunksOfOtherLengthsAreNotAlike();
        chunksComeToTheLeastFreeSlots();
        partComesInPlaceOfOneWithItsNumber();
        partOfNoBytes();
        allSessionsAndNumbers();
        wrongArguments();
        tooFewFreeSlots();
        lackOfSlotsDoesNothing();
        argumentsBeforeSlotsBeforePower();
        powerGoesAtEachWrite();
        CHECK.end();
    }

    private static void everyLengthIsCutIntoChunks() {
        long[] words = {0xF1E2D3C4B5A69788L, 0x0123456789ABCDEFL, 0x8000000000000001L};
        for (int n = 0; n <= 24; n++) {
            BlobStore x = Stores.withSession();
            int chunks = (n + 7) / 8;
            CHECK.due("part of " + n, x.part(0, 1, n, words[0], words[1], words[2]), chunks);
            CHECK.due("chunks for " + n, x.state(0), chunks);
            CHECK.due("writes for " + n, x.state(4), 1 + chunks + 1);
            for (int i = 0; i < chunks; i++) {
                CHECK.due("slotOf for " + n, x.slotOf(Math.min(8, n - 8 * i), words[i]), i);
            }
            x.complete(0);
            CHECK.due("size for " + n, x.size(1), n);
            for (int i = 0; i < n; i++) {
                int want = (int) (words[i / 8] >>> (56 - 8 * (i % 8))) & 255;
                CHECK.due("byteAt(1, " + i + ") for " + n, x.byteAt(1, i), want);
            }
            CHECK.due("byteAt(1, " + n + ")", x.byteAt(1, n), -1);
        }
    }

    private static void bytesBehindTheEndAreNotLookedAt() {
        BlobStore x = Stores.withSession();
        CHECK.due("part", x.part(0, 1, 3, 0x0102030405060708L, 9, 9), 1);
        CHECK.due("the same 3 bytes", x.part(0, 2, 3, 0x0102030000000000L, -1, -1), 0);
        CHECK.due("the same 3 bytes", x.part(0, 3, 3, 0x010203FFFFFFFFFFL, 0, 0), 0);
        CHECK.due("needed(0)", x.needed(0), 3);
    }

    private static void alikeChunksAreKeptOnce() {
        BlobStore x = Stores.withSession();
        CHECK.due("three alike", x.part(0, 1, 24, 7, 7, 7), 1);
        CHECK.due("needed(0)", x.needed(0), 3);
        CHECK.due("first and last alike", x.part(0, 2, 24, 8, 9, 8), 2);
        CHECK.due("needed(1)", x.needed(1), 2);
        CHECK.due("one there, two alike", x.part(0, 3, 24, 7, 5, 5), 1);
        CHECK.due("all there", x.part(0, 4, 24, 5, 8, 7), 0);
        CHECK.due("chunks", x.state(0), 4);
        CHECK.due("writes: begin 1, chunks 4, parts 4", x.state(4), 9);
        x.complete(0);
        long[] want = {7, 7, 7, 8, 9, 8, 7, 5, 5, 5, 8, 7};
        for (int i = 0; i < want.length; i++) {
            CHECK.due("last byte of chunk " + i, x.byteAt(1, 8 * i + 7), want[i]);
        }
    }

    private static void chunksOfOtherLengthsAreNotAlike() {
        BlobStore x = Stores.withSession();
        for (int n = 1; n <= 8; n++) {
            CHECK.due(n + " bytes of 0", x.part(0, 1, n, 0, 0, 0), 1);
        }
        for (int n = 1; n <= 8; n++) {
            CHECK.due("slotOf(" + n + ", 0)", x.slotOf(n, 0), n - 1);
        }
        CHECK.due("9 bytes of 0", x.part(0, 1, 9, 0, 0, 0), 0);
        CHECK.due("needed: 8 bytes", x.needed(7), 1);
        CHECK.due("needed: 1 byte", x.needed(0), 1);
    }

    private static void chunksComeToTheLeastFreeSlots() {
        BlobStore x = Stores.withChunks(6);
        x.part(0, 1, 16, 1001, 1004, 0);
        x.collect();
        CHECK.due("chunks left", x.state(0), 2);
        CHECK.due("three more", x.part(0, 2, 24, 51, 52, 53), 3);
        CHECK.due("slotOf 51", x.slotOf(8, 51), 0);
        CHECK.due("slotOf 52", x.slotOf(8, 52), 2);
        CHECK.due("slotOf 53", x.slotOf(8, 53), 3);
        CHECK.due("slotOf 1001", x.slotOf(8, 1001), 1);
        CHECK.due("one more", x.part(0, 3, 8, 54, 0, 0), 1);
        CHECK.due("slotOf 54", x.slotOf(8, 54), 5);
    }

    private static void partComesInPlaceOfOneWithItsNumber() {
        BlobStore x = Stores.withSession();
        x.part(0, 3, 24, 1, 2, 3);
        CHECK.due("in its place", x.part(0, 3, 8, 2, 0, 0), 0);
        CHECK.due("needed(0)", x.needed(0), 0);
        CHECK.due("needed(1)", x.needed(1), 1);
        CHECK.due("needed(2)", x.needed(2), 0);
        CHECK.due("chunks stay", x.state(0), 3);
        x.complete(0);
        CHECK.due("size(1)", x.size(1), 8);
    }

    private static void partOfNoBytes() {
        BlobStore x = Stores.withSession();
        x.part(0, 1, 8, 1, 0, 0);
        CHECK.due("part of no bytes", x.part(0, 1, 0, 1, 2, 3), 0);
        CHECK.due("chunks stay", x.state(0), 1);
        CHECK.due("needed(0)", x.needed(0), 0);
        CHECK.due("it is a write", x.state(4), 4);
        x.cutAfter(0);
        CHECK.dueThrow("part of no bytes, cut", Check.POWER, () -> x.part(0, 1, 0, 1, 2, 3));
    }

    private static void allSessionsAndNumbers() {
        BlobStore x = new BlobStore();
        for (int session = 0; session < 5; session++) {
            x.begin(0, session);
            for (int number = 6; number >= 1; number--) {
                CHECK.due("part", x.part(session, number, 1, (10L * session + number) << 56, 0, 0), 1);
            }
        }
        for (int session = 0; session < 5; session++) {
            int version = x.complete(session);
            CHECK.due("size", x.size(version), 6);
            for (int number = 1; number <= 6; number++) {
                CHECK.due("byteAt", x.byteAt(version, number - 1), 10 * session + number);
            }
        }
    }

    private static void wrongArguments() {
        int least = Integer.MIN_VALUE;
        int most = Integer.MAX_VALUE;
        int[][] others = {{-1, 1, 1}, {1, 1, 1}, {5, 1, 1}, {least, 1, 1}, {most, 1, 1}, {1, 1, 0},
            {0, 0, 1}, {0, 7, 1}, {0, -1, 1}, {0, least, 1}, {0, most, 1}, {0, 7, 0},
            {0, 1, -1}, {0, 1, 25}, {0, 1, 8 + (1 << 29)}, {0, 1, least}, {0, 1, most}};
        BlobStore x = Stores.withSession();
        x.cutAfter(0);
        for (int[] other : others) {
            CHECK.dueThrow("part(" + other[0] + ", " + other[1] + ", " + other[2] + ")", Check.ARGUMENT,
                    () -> x.part(other[0], other[1], other[2], 1, 2, 3));
        }
        CHECK.due("writes", x.state(4), 1);
        CHECK.due("chunks", x.state(0), 0);
        CHECK.due("down", x.state(5), 0);
        Stores.down(x);
        CHECK.dueThrow("part(9, 9, 99), down", Check.STATE, () -> x.part(9, 9, 99, 1, 2, 3));
        CHECK.dueThrow("part(0, 1, 8), down", Check.STATE, () -> x.part(0, 1, 8, 1, 2, 3));
        CHECK.due("chunks, down", x.state(0), 0);
    }

    private static void tooFewFreeSlots() {
        BlobStore x = Stores.withChunks(46);
        CHECK.dueThrow("three new, two free", Check.INDEX, () -> x.part(0, 2, 24, 1, 2, 3));
        CHECK.due("three alike, two free", x.part(0, 2, 24, 1, 1, 1), 1);
        CHECK.dueThrow("two new, one free", Check.INDEX, () -> x.part(0, 2, 16, 2, 3, 0));
        CHECK.dueThrow("two new behind one there, one free", Check.INDEX, () -> x.part(0, 2, 24, 1, 2, 3));
        CHECK.due("one new between two there, one free", x.part(0, 2, 24, 1, 2, 1000), 1);
        CHECK.due("needed(47)", x.needed(47), 1);
        CHECK.dueThrow("one new, none free", Check.INDEX, () -> x.part(0, 2, 1, 1, 0, 0));
        CHECK.due("none new, none free", x.part(0, 3, 24, 1047 - 2, 1, 2), 0);
        CHECK.due("no bytes, none free", x.part(0, 2, 0, 0, 0, 0), 0);
        CHECK.due("chunks", x.state(0), 48);
    }

    private static void lackOfSlotsDoesNothing() {
        BlobStore x = Stores.withChunks(47);
        x.part(0, 4, 8, 1000, 0, 0);
        int writes = x.state(4);
        CHECK.dueThrow("two new, one free", Check.INDEX, () -> x.part(0, 4, 16, 1, 2, 0));
        CHECK.due("chunks", x.state(0), 47);
        CHECK.due("writes", x.state(4), writes);
        CHECK.due("slotOf the first", x.slotOf(8, 1), -1);
        CHECK.due("the part before stays", x.needed(0), 1);
        CHECK.due("down", x.state(5), 0);
    }

    private static void argumentsBeforeSlotsBeforePower() {
        BlobStore x = Stores.withChunks(48);
        x.cutAfter(0);
        CHECK.dueThrow("number 7, none free, cut", Check.ARGUMENT, () -> x.part(0, 7, 8, 1, 0, 0));
        CHECK.dueThrow("none free, cut", Check.INDEX, () -> x.part(0, 1, 8, 1, 0, 0));
        CHECK.due("down", x.state(5), 0);
        CHECK.dueThrow("one there, cut", Check.POWER, () -> x.part(0, 1, 8, 1000, 0, 0));
        CHECK.due("down", x.state(5), 1);
    }

    private static void powerGoesAtEachWrite() {
        for (int n = 0; n <= 4; n++) {
            BlobStore x = Stores.withSession();
            x.part(0, 1, 8, 9, 0, 0);
            x.cutAfter(n);
            if (n < 4) {
                CHECK.dueThrow("part, cut behind " + n, Check.POWER, () -> x.part(0, 1, 24, 1, 2, 3));
                CHECK.due("the part before stays, cut behind " + n, x.needed(0), 1);
            } else {
                CHECK.due("part, cut behind " + n, x.part(0, 1, 24, 1, 2, 3), 3);
                CHECK.due("the part before is gone", x.needed(0), 0);
            }
            CHECK.due("down, cut behind " + n, x.state(5), n < 4 ? 1 : 0);
            CHECK.due("chunks, cut behind " + n, x.state(0), 1 + Math.min(n, 3));
            CHECK.due("writes, cut behind " + n, x.state(4), 3 + n);
            for (int i = 1; i <= 3; i++) {
                CHECK.due("slotOf " + i + ", cut behind " + n, x.slotOf(8, i), i <= n ? i : -1);
                CHECK.due("needed " + i + ", cut behind " + n, x.needed(i), n == 4 ? 1 : i <= n ? 0 : -1);
            }
            CHECK.due("recover", x.recover(), n < 4);
            if (n < 4) {
                CHECK.due("again", x.part(0, 1, 24, 1, 2, 3), 3 - n);
            }
        }
    }
}
