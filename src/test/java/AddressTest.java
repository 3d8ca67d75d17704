import java.nio.ByteBuffer;
import java.security.MessageDigest;
import java.security.NoSuchAlgorithmException;

/** Promise 13: address. */
public final class AddressTest {
    private static final Check CHECK = new Check("AddressTest");

    public static void main(String[] args) {
        CHECK.says("Word w (0 to 7) of the address of the chunk in a slot.", AddressTest::wordsOfEveryLength);
        CHECK.says("Word w (0 to 7) of the address of the chunk in a slot.", AddressTest::firstAndLastSlot);
        CHECK.says("Word w (0 to 7) of the address of the chunk in a slot.", AddressTest::shortLastChunkOfAPart);
        CHECK.says("Word w (0 to 7) of the address of the chunk in a slot.", AddressTest::slotInUseAgain);
        CHECK.says("NoSuchElementException: it is free", AddressTest::neverUsed);
        CHECK.says("NoSuchElementException: it is free", AddressTest::freedAgain);
        CHECK.says("or there is no such slot", AddressTest::noSuchSlot);
        CHECK.says("or there is no such slot or word", AddressTest::noSuchWord);
        CHECK.end();
    }

    private static int[] sha256(int n, long bytes) {
        try {
            MessageDigest digest = MessageDigest.getInstance("SHA-256");
            digest.update(ByteBuffer.allocate(8).putLong(bytes).array(), 0, n);
            int[] words = new int[8];
            ByteBuffer.wrap(digest.digest()).asIntBuffer().get(words);
            return words;
        } catch (NoSuchAlgorithmException e) {
            throw new IllegalStateException(e);
        }
    }

    private static void words(BlobStore x, int slot, int n, long bytes) {
        int[] want = sha256(n, bytes);
        for (int w = 0; w < 8; w++) {
            CHECK.due("address(" + slot + ", " + w + ") of " + n + " bytes of " + bytes, x.address(slot, w), want[w]);
        }
    }

    private static void wordsOfEveryLength() {
        long[] all = {0L, -1L, 0x6162636465666768L, 0x8000000000000000L, 0x00000000FFFFFFFFL, 0x0123456789ABCDEFL,
            0x8080808080808080L, Long.MAX_VALUE};
        for (long bytes : all) {
            for (int n = 1; n <= 8; n++) {
                BlobStore x = Stores.withSession();
                x.part(0, 1, n, bytes, 0, 0);
                words(x, 0, n, bytes);
            }
        }
    }

    private static void firstAndLastSlot() {
        BlobStore x = Stores.withChunks(48);
        words(x, 0, 8, 1000);
        words(x, 1, 8, 1001);
        words(x, 46, 8, 1046);
        words(x, 47, 8, 1047);
    }

    private static void shortLastChunkOfAPart() {
        BlobStore x = Stores.withSession();
        x.part(0, 1, 19, -2, -3, -4);
        words(x, 0, 8, -2);
        words(x, 1, 8, -3);
        words(x, 2, 3, -4);
    }

    private static void slotInUseAgain() {
        BlobStore x = Stores.withVersion(5);
        x.delete(1);
        x.collect();
        Stores.version(x, 0, 0, 6);
        words(x, 0, 8, 6);
    }

    private static void neverUsed() {
        BlobStore x = Stores.withChunks(2);
        CHECK.dueThrow("address(2, 0), two chunks", Check.ELEMENT, () -> x.address(2, 0));
        CHECK.dueThrow("address(47, 7), two chunks", Check.ELEMENT, () -> x.address(47, 7));
        CHECK.dueThrow("address(0, 0), new", Check.ELEMENT, () -> new BlobStore().address(0, 0));
    }

    private static void freedAgain() {
        BlobStore x = Stores.withGaps(5, 0, 3);
        CHECK.dueThrow("address(0, 0), freed", Check.ELEMENT, () -> x.address(0, 0));
        CHECK.dueThrow("address(3, 7), freed", Check.ELEMENT, () -> x.address(3, 7));
        words(x, 4, 8, 1004);
    }

    private static void noSuchSlot() {
        BlobStore x = Stores.withChunks(48);
        for (int slot : new int[] {-1, 48, Stores.LEAST, Stores.MOST}) {
            CHECK.dueThrow("address(" + slot + ", 0)", Check.ELEMENT, () -> x.address(slot, 0));
        }
    }

    private static void noSuchWord() {
        BlobStore x = Stores.withChunks(48);
        for (int w : new int[] {-1, 8, Stores.LEAST, Stores.MOST}) {
            CHECK.dueThrow("address(0, " + w + ")", Check.ELEMENT, () -> x.address(0, w));
            CHECK.dueThrow("address(47, " + w + ")", Check.ELEMENT, () -> x.address(47, w));
        }
    }
}
