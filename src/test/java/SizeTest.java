/** Promise 11: size, and what DOWN leaves of all that only tells. */
public final class SizeTest {
    private static final Check CHECK = new Check("SizeTest");

    public static void main(String[] args) {
        CHECK.says("How many bytes a version has", SizeTest::everyLengthOfOnePart);
        CHECK.says("How many bytes a version has", SizeTest::noBytes);
        CHECK.says("How many bytes a version has", SizeTest::mostBytes);
        CHECK.says("How many bytes a version has", SizeTest::shortChunksInTheMiddle);
        CHECK.says("-1 when it does not live", SizeTest::deleted);
        CHECK.says("-1 when it does not live", SizeTest::neverGiven);
        CHECK.says("DOWN or not", SizeTest::downOrNot);
        CHECK.says("so with all that only tells", SizeTest::allThatOnlyTells);
        CHECK.says("so with all that only tells", SizeTest::refusalsOfAllThatOnlyTells);
        CHECK.end();
    }

    private static void everyLengthOfOnePart() {
        for (int n = 0; n <= 24; n++) {
            BlobStore x = Stores.withSession();
            x.part(0, 3, n, 1, 2, 3);
            x.complete(0);
            CHECK.due("size(1) of a part of " + n, x.size(1), n);
        }
    }

    private static void noBytes() {
        CHECK.due("size(1) without parts", Stores.withEmptyVersions(1).size(1), 0);
    }

    private static void mostBytes() {
        BlobStore x = Stores.withSession();
        for (int number = 1; number <= 6; number++) {
            x.part(0, number, 24, 7, 7, 7);
        }
        x.complete(0);
        CHECK.due("size(1) of six full parts", x.size(1), 144);
    }

    private static void shortChunksInTheMiddle() {
        BlobStore x = Stores.withSession();
        for (int number = 1; number <= 6; number++) {
            x.part(0, number, 8 + number, 1, 2, 3);
        }
        x.complete(0);
        CHECK.due("size(1) of 9 to 14 bytes", x.size(1), 9 + 10 + 11 + 12 + 13 + 14);
    }

    private static void deleted() {
        BlobStore x = Stores.withVersion(5);
        CHECK.due("size(1)", x.size(1), 8);
        x.delete(1);
        CHECK.due("size(1), deleted", x.size(1), -1);
        x.collect();
        CHECK.due("size(1), collected", x.size(1), -1);
    }

    private static void neverGiven() {
        BlobStore x = Stores.busy();
        for (int version : new int[] {0, -1, 2, 40, 41, Stores.LEAST, Stores.MOST}) {
            CHECK.due("size(" + version + ")", x.size(version), -1);
        }
        BlobStore y = Stores.withEmptyVersions(40);
        CHECK.due("size(40) of 40", y.size(40), 0);
        CHECK.due("size(41) of 40", y.size(41), -1);
        CHECK.due("size(0) of 40", y.size(0), -1);
    }

    private static void downOrNot() {
        BlobStore x = Stores.down(Stores.busy());
        CHECK.due("size(1), down", x.size(1), 8);
        CHECK.due("size(2), down", x.size(2), -1);
    }

    private static void allThatOnlyTells() {
        BlobStore x = Stores.busy();
        int word = x.address(2, 7);
        Stores.down(x);
        CHECK.due("latest(0, 0), down", x.latest(0, 0), 1);
        CHECK.due("byteAt(1, 7), down", x.byteAt(1, 7), 5);
        CHECK.due("address(2, 7), down", x.address(2, 7), word);
        CHECK.due("needed(0), down", x.needed(0), 1);
        CHECK.due("slotOf(8, 7), down", x.slotOf(8, 7), 2);
        int[] want = {3, 1, 1, 1, 10, 1, 0, 0};
        for (int what = 0; what < want.length; what++) {
            CHECK.due("state(" + what + "), down", x.state(what), want[what]);
        }
    }

    private static void refusalsOfAllThatOnlyTells() {
        BlobStore x = Stores.down(Stores.busy());
        CHECK.due("latest(4, 0), down", x.latest(4, 0), 0);
        CHECK.due("byteAt(1, 8), down", x.byteAt(1, 8), -1);
        CHECK.dueThrow("address(3, 0), down", Check.ELEMENT, () -> x.address(3, 0));
        CHECK.dueThrow("address(0, 8), down", Check.ELEMENT, () -> x.address(0, 8));
        CHECK.due("needed(3), down", x.needed(3), -1);
        CHECK.due("slotOf(9, 7), down", x.slotOf(9, 7), -1);
        CHECK.due("slotOf(8, 9), down", x.slotOf(8, 9), -1);
        CHECK.due("state(8), down", x.state(8), -1);
    }
}
