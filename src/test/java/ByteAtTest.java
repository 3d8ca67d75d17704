/** Promise 12: byteAt. */
public final class ByteAtTest {
    private static final Check CHECK = new Check("ByteAtTest");

    public static void main(String[] args) {
        CHECK.says("Byte i of a version", ByteAtTest::overChunksAndParts);
        CHECK.says("Byte i of a version", ByteAtTest::lastOfTheMost);
        CHECK.says("0 to 255", ByteAtTest::everyByte);
        CHECK.says("-1 when there is none", ByteAtTest::noneBeforeTheFirst);
        CHECK.says("-1 when there is none", ByteAtTest::noneBehindTheLast);
        CHECK.says("-1 when there is none", ByteAtTest::noneOfNoBytes);
        CHECK.says("-1 when there is none", ByteAtTest::noneOfADeletedVersion);
        CHECK.says("-1 when there is none", ByteAtTest::noneOfANumberNeverGiven);
        CHECK.end();
    }

    private static void overChunksAndParts() {
        BlobStore x = Stores.withSession();
        x.part(0, 1, 9, 0x0001020304050607L, 0x0800000000000000L, 0);
        x.part(0, 3, 1, 0x0900000000000000L, 0, 0);
        x.part(0, 4, 0, 0, 0, 0);
        x.part(0, 6, 17, 0x0A0B0C0D0E0F1011L, 0x1213141516171819L, 0x1A00000000000000L);
        x.complete(0);
        for (int i = 0; i < 27; i++) {
            CHECK.due("byteAt(1, " + i + ")", x.byteAt(1, i), i);
        }
    }

    private static void lastOfTheMost() {
        BlobStore x = Stores.withSession();
        for (int number = 1; number <= 6; number++) {
            x.part(0, number, 24, 7, 7, number);
        }
        x.complete(0);
        CHECK.due("byteAt(1, 23)", x.byteAt(1, 23), 1);
        CHECK.due("byteAt(1, 143)", x.byteAt(1, 143), 6);
        CHECK.due("byteAt(1, 144)", x.byteAt(1, 144), -1);
    }

    private static void everyByte() {
        for (int first = 0; first < 256; first += 128) {
            BlobStore x = Stores.withSession();
            for (int number = 1; number <= 6; number++) {
                x.part(0, number, 24, rising(first + 24 * number - 24), rising(first + 24 * number - 16),
                        rising(first + 24 * number - 8));
            }
            x.complete(0);
            for (int i = 0; i < 128; i++) {
                CHECK.due("byteAt(1, " + i + ")", x.byteAt(1, i), first + i);
            }
        }
    }

    /** Eight bytes, each one more than the one before it. */
    private static long rising(int first) {
        long bytes = 0;
        for (int i = 0; i < 8; i++) {
            bytes = bytes << 8 | (first + i & 255);
        }
        return bytes;
    }

    private static void noneBeforeTheFirst() {
        BlobStore x = Stores.withVersion(-1);
        CHECK.due("byteAt(1, 0)", x.byteAt(1, 0), 255);
        CHECK.due("byteAt(1, -1)", x.byteAt(1, -1), -1);
        CHECK.due("byteAt(1, least)", x.byteAt(1, Stores.LEAST), -1);
    }

    private static void noneBehindTheLast() {
        for (int n = 1; n <= 24; n++) {
            BlobStore x = Stores.withSession();
            x.part(0, 1, n, -1, -1, -1);
            x.complete(0);
            CHECK.due("byteAt(1, " + (n - 1) + ") of " + n, x.byteAt(1, n - 1), 255);
            CHECK.due("byteAt(1, " + n + ") of " + n, x.byteAt(1, n), -1);
            CHECK.due("byteAt(1, most) of " + n, x.byteAt(1, Stores.MOST), -1);
        }
    }

    private static void noneOfNoBytes() {
        BlobStore x = Stores.withEmptyVersions(1);
        for (int i : new int[] {0, -1, 1, Stores.LEAST, Stores.MOST}) {
            CHECK.due("byteAt(1, " + i + ") of no bytes", x.byteAt(1, i), -1);
        }
    }

    private static void noneOfADeletedVersion() {
        BlobStore x = Stores.withVersion(5);
        CHECK.due("byteAt(1, 7)", x.byteAt(1, 7), 5);
        x.delete(1);
        CHECK.due("byteAt(1, 7), deleted", x.byteAt(1, 7), -1);
        x.collect();
        Stores.version(x, 0, 0, 6);
        CHECK.due("byteAt(1, 7), its slot in use again", x.byteAt(1, 7), -1);
    }

    private static void noneOfANumberNeverGiven() {
        BlobStore x = Stores.busy();
        for (int version : new int[] {0, -1, 2, 40, 41, Stores.LEAST, Stores.MOST}) {
            CHECK.due("byteAt(" + version + ", 0)", x.byteAt(version, 0), -1);
        }
        CHECK.due("byteAt(41, 0) of 40", Stores.withEmptyVersions(40).byteAt(41, 0), -1);
    }
}
