import java.nio.ByteBuffer;
import java.security.MessageDigest;
import java.security.NoSuchAlgorithmException;

/** Promises 13 (address), 14 (needed) and 15 (slotOf). */
public final class ChunksTest {
    private static final Check CHECK = new Check("ChunksTest");

    public static void main(String[] args) throws NoSuchAlgorithmException {
        addressIsSha256();
        addressRefusesOthers();
        neededCountsPartsAndVersions();
        neededOfOthers();
        slotOfFindsChunks();
        slotOfOthers();
        tellingMakesNoWrite();
        CHECK.end();
    }

    private static void addressIsSha256() throws NoSuchAlgorithmException {
        MessageDigest sha256 = MessageDigest.getInstance("SHA-256");
        long[] words = {0L, -1L, 0x6162636465666768L, 0x8000000000000000L, 0x00000000FFFFFFFFL, 0x0123456789ABCDEFL};
        for (long word : words) {
            for (int n = 1; n <= 8; n++) {
                BlobStore x = Stores.withSession();
                x.part(0, 1, n, word, 0, 0);
                sha256.update(ByteBuffer.allocate(8).putLong(word).array(), 0, n);
                ByteBuffer want = ByteBuffer.wrap(sha256.digest());
                for (int w = 0; w < 8; w++) {
                    CHECK.due("word " + w + " of " + n + " bytes of " + word, x.address(0, w), want.getInt());
                }
            }
        }
    }

    private static void addressRefusesOthers() {
        BlobStore x = Stores.withChunks(48);
        int[][] others = {{-1, 0}, {48, 0}, {0, -1}, {0, 8}, {47, 8}, {Integer.MIN_VALUE, 0},
            {Integer.MAX_VALUE, 0}, {0, Integer.MIN_VALUE}, {0, Integer.MAX_VALUE}};
        for (int[] other : others) {
            CHECK.dueThrow("address(" + other[0] + ", " + other[1] + ")", Check.ELEMENT,
                    () -> x.address(other[0], other[1]));
        }
        CHECK.due("address(47, 7)", x.address(47, 7) == x.address(46, 7), false);
        x.collect();
        CHECK.dueThrow("address of a freed slot", Check.ELEMENT, () -> x.address(0, 0));
        CHECK.dueThrow("address of a slot never used", Check.ELEMENT, () -> new BlobStore().address(0, 0));
    }

    private static void neededCountsPartsAndVersions() {
        BlobStore x = Stores.withSession();
        x.part(0, 1, 24, 7, 7, 8);
        x.part(0, 2, 8, 7, 0, 0);
        CHECK.due("needed(0), two parts", x.needed(0), 3);
        CHECK.due("needed(1), two parts", x.needed(1), 1);
        x.complete(0);
        CHECK.due("needed(0), a version", x.needed(0), 3);
        x.begin(0, 0);
        x.part(0, 6, 16, 8, 7, 0);
        x.begin(0, 0);
        x.part(1, 1, 8, 8, 0, 0);
        CHECK.due("needed(0), a version and two sessions", x.needed(0), 4);
        CHECK.due("needed(1), a version and two sessions", x.needed(1), 3);
        x.delete(1);
        CHECK.due("needed(0), deleted", x.needed(0), 1);
        CHECK.due("needed(1), deleted", x.needed(1), 2);
        x.abort(0);
        CHECK.due("needed(0), aborted", x.needed(0), 0);
        CHECK.due("needed(1), aborted", x.needed(1), 1);
        CHECK.due("needed(0), told again", x.needed(0), 0);
    }

    private static void neededOfOthers() {
        BlobStore x = Stores.withChunks(3);
        int[] others = {-1, 3, 47, 48, Integer.MIN_VALUE, Integer.MAX_VALUE};
        for (int other : others) {
            CHECK.due("needed(" + other + ")", x.needed(other), -1);
        }
        CHECK.due("needed(2)", x.needed(2), 0);
    }

    private static void slotOfFindsChunks() {
        BlobStore x = Stores.withSession();
        x.part(0, 1, 24, 1, 2, 3);
        x.part(0, 2, 5, 0x0102030405060708L, 0, 0);
        CHECK.due("slotOf(8, 3)", x.slotOf(8, 3), 2);
        CHECK.due("slotOf(5, ..)", x.slotOf(5, 0x0102030405060708L), 3);
        CHECK.due("slotOf(5, ..), others behind", x.slotOf(5, 0x0102030405FFFFFFL), 3);
        CHECK.due("slotOf(5, ..), another byte", x.slotOf(5, 0x0102030406060708L), -1);
        CHECK.due("slotOf(4, ..)", x.slotOf(4, 0x0102030405060708L), -1);
        CHECK.due("slotOf(6, ..)", x.slotOf(6, 0x0102030405000000L), -1);
        CHECK.due("slotOf(8, ..)", x.slotOf(8, 0x0102030405000000L), -1);
        CHECK.due("slotOf(8, 0), free slots have no chunk", x.slotOf(8, 0), -1);
    }

    private static void slotOfOthers() {
        BlobStore x = Stores.withSession();
        x.part(0, 1, 8, 0, 0, 0);
        x.part(0, 2, 1, 0, 0, 0);
        int[] others = {0, -1, 9, 16, 8 + (1 << 29), Integer.MIN_VALUE, Integer.MAX_VALUE};
        for (int other : others) {
            CHECK.due("slotOf(" + other + ", 0)", x.slotOf(other, 0), -1);
        }
        CHECK.due("slotOf(8, 0)", x.slotOf(8, 0), 0);
        CHECK.due("slotOf(1, 0)", x.slotOf(1, 0), 1);
    }

    private static void tellingMakesNoWrite() {
        BlobStore x = Stores.withVersion(5);
        x.cutAfter(0);
        int writes = x.state(4);
        x.latest(0, 0);
        x.size(1);
        x.byteAt(1, 0);
        x.address(0, 0);
        x.needed(0);
        x.slotOf(8, 6);
        CHECK.due("writes", x.state(4), writes);
        CHECK.due("chunks", x.state(0), 1);
        CHECK.due("down", x.state(5), 0);
    }
}
