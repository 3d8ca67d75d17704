/** Promise 15: slotOf. */
public final class SlotOfTest {
    private static final Check CHECK = new Check("SlotOfTest");

    public static void main(String[] args) {
        CHECK.says("The slot that has the chunk of n bytes (1 to 8) of a", SlotOfTest::everyLength);
        CHECK.says("The slot that has the chunk of n bytes (1 to 8) of a", SlotOfTest::firstAndLastSlot);
        CHECK.says("The slot that has the chunk of n bytes (1 to 8) of a", SlotOfTest::thoughNobodyNeedsIt);
        CHECK.says("the highest first", SlotOfTest::highestFirst);
        CHECK.says("(others are not looked at)", SlotOfTest::othersAreNotLookedAt);
        CHECK.says("-1 when none has", SlotOfTest::noneHas);
        CHECK.says("-1 when none has", SlotOfTest::freedAgain);
        CHECK.says("-1 when none has", SlotOfTest::neverUsedSlotsHaveNone);
        CHECK.says("or n is not so", SlotOfTest::notSo);
        CHECK.end();
    }

    private static void everyLength() {
        BlobStore x = Stores.withSession();
        for (int n = 1; n <= 8; n++) {
            x.part(0, 1, n, 0x0102030405060708L, 0, 0);
            CHECK.due("slotOf(" + n + ", ..)", x.slotOf(n, 0x0102030405060708L), n - 1);
        }
        for (int n = 1; n <= 8; n++) {
            CHECK.due("slotOf(" + n + ", ..), all there", x.slotOf(n, 0x0102030405060708L), n - 1);
        }
    }

    private static void firstAndLastSlot() {
        BlobStore x = Stores.withChunks(48);
        CHECK.due("slotOf(8, 1000)", x.slotOf(8, 1000), 0);
        CHECK.due("slotOf(8, 1047)", x.slotOf(8, 1047), 47);
    }

    private static void thoughNobodyNeedsIt() {
        BlobStore x = Stores.withVersion(5);
        x.delete(1);
        CHECK.due("slotOf(8, 5)", x.slotOf(8, 5), 0);
    }

    private static void highestFirst() {
        BlobStore x = Stores.withSession();
        x.part(0, 1, 1, 0x4100000000000000L, 0, 0);
        CHECK.due("slotOf(1, 0x41 highest)", x.slotOf(1, 0x4100000000000000L), 0);
        CHECK.due("slotOf(1, 0x41 lowest)", x.slotOf(1, 0x41), -1);
        x.part(0, 2, 2, 0x4142000000000000L, 0, 0);
        CHECK.due("slotOf(2, 0x4142 highest)", x.slotOf(2, 0x4142000000000000L), 1);
        CHECK.due("slotOf(2, 0x4241 highest)", x.slotOf(2, 0x4241000000000000L), -1);
    }

    private static void othersAreNotLookedAt() {
        BlobStore x = Stores.withSession();
        for (int n = 1; n <= 7; n++) {
            x.part(0, 1, n, 0x0102030405060708L, 0, 0);
            long others = -1L >>> (8 * n);
            CHECK.due("slotOf(" + n + ", ..), zeros behind", x.slotOf(n, 0x0102030405060708L & ~others), n - 1);
            CHECK.due("slotOf(" + n + ", ..), ones behind", x.slotOf(n, 0x0102030405060708L | others), n - 1);
        }
    }

    private static void noneHas() {
        BlobStore x = Stores.withSession();
        x.part(0, 1, 5, 0x0102030405000000L, 0, 0);
        CHECK.due("slotOf(5, another last byte)", x.slotOf(5, 0x0102030406000000L), -1);
        CHECK.due("slotOf(5, another first byte)", x.slotOf(5, 0x8102030405000000L), -1);
        CHECK.due("slotOf(4, its beginning)", x.slotOf(4, 0x0102030405000000L), -1);
        CHECK.due("slotOf(6, a zero more)", x.slotOf(6, 0x0102030405000000L), -1);
        CHECK.due("slotOf(8, three zeros more)", x.slotOf(8, 0x0102030405000000L), -1);
    }

    private static void freedAgain() {
        BlobStore x = Stores.withGaps(5, 0, 3);
        CHECK.due("slotOf(8, 1000), freed", x.slotOf(8, 1000), -1);
        CHECK.due("slotOf(8, 1003), freed", x.slotOf(8, 1003), -1);
        CHECK.due("slotOf(8, 1004)", x.slotOf(8, 1004), 4);
    }

    private static void neverUsedSlotsHaveNone() {
        BlobStore x = Stores.withChunks(1);
        for (int n = 1; n <= 8; n++) {
            CHECK.due("slotOf(" + n + ", 0)", x.slotOf(n, 0), -1);
        }
    }

    private static void notSo() {
        BlobStore x = Stores.withSession();
        x.part(0, 1, 8, 0, 0, 0);
        x.part(0, 2, 1, 0, 0, 0);
        // The one behind 16 is 8 bytes when it is counted in bits of 32.
        for (int n : new int[] {0, 9, -1, 16, 8 + (1 << 29), Stores.LEAST, Stores.MOST}) {
            CHECK.due("slotOf(" + n + ", 0)", x.slotOf(n, 0), -1);
        }
    }
}
