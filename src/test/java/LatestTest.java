/** Promise 10: latest. */
public final class LatestTest {
    private static final Check CHECK = new Check("LatestTest");

    public static void main(String[] args) {
        CHECK.says("The greatest number of a version of a bucket and key that lives", LatestTest::greatest);
        CHECK.says("The greatest number of a version of a bucket and key that lives", LatestTest::greatestThatLives);
        CHECK.says("The greatest number of a version of a bucket and key that lives", LatestTest::fortiethAndFirst);
        CHECK.says("0 when there is none", LatestTest::none);
        CHECK.says("0 when there is none", LatestTest::noneThatLives);
        CHECK.says("0 when there is none", LatestTest::openSessionIsNone);
        CHECK.says("(nor such a bucket or key)", LatestTest::noSuchBucket);
        CHECK.says("(nor such a bucket or key)", LatestTest::noSuchKey);
        CHECK.end();
    }

    private static BlobStore withFive() {
        BlobStore x = new BlobStore();
        Stores.version(x, 3, 7, 1);
        Stores.version(x, 3, 7, 2);
        Stores.version(x, 3, 6, 3);
        Stores.version(x, 2, 7, 4);
        Stores.version(x, 3, 7, 5);
        return x;
    }

    private static void greatest() {
        BlobStore x = withFive();
        CHECK.due("latest(3, 7)", x.latest(3, 7), 5);
        CHECK.due("latest(3, 6)", x.latest(3, 6), 3);
        CHECK.due("latest(2, 7)", x.latest(2, 7), 4);
        CHECK.due("latest(3, 7)", Stores.version(x, 3, 7, 1), x.latest(3, 7));
    }

    private static void greatestThatLives() {
        BlobStore x = withFive();
        x.delete(5);
        CHECK.due("latest(3, 7), 5 deleted", x.latest(3, 7), 2);
        x.delete(1);
        CHECK.due("latest(3, 7), 5 and 1 deleted", x.latest(3, 7), 2);
    }

    private static void fortiethAndFirst() {
        BlobStore x = new BlobStore();
        for (int i = 0; i < 40; i++) {
            x.complete(x.begin(3, 7));
        }
        CHECK.due("latest(3, 7) of 40", x.latest(3, 7), 40);
        for (int version = 40; version >= 2; version--) {
            x.delete(version);
            CHECK.due("latest(3, 7) of " + (version - 1), x.latest(3, 7), version - 1);
        }
    }

    private static void none() {
        BlobStore x = withFive();
        CHECK.due("latest(0, 0)", x.latest(0, 0), 0);
        CHECK.due("latest(3, 5)", x.latest(3, 5), 0);
        CHECK.due("latest(2, 6)", x.latest(2, 6), 0);
        CHECK.due("latest(0, 0), new", new BlobStore().latest(0, 0), 0);
    }

    private static void noneThatLives() {
        BlobStore x = Stores.withVersion(5);
        x.delete(1);
        CHECK.due("latest(0, 0), deleted", x.latest(0, 0), 0);
    }

    private static void openSessionIsNone() {
        BlobStore x = Stores.withSession();
        x.part(0, 1, 8, 5, 0, 0);
        CHECK.due("latest(0, 0), a session open", x.latest(0, 0), 0);
        x.abort(0);
        CHECK.due("latest(0, 0), aborted", x.latest(0, 0), 0);
    }

    private static void noSuchBucket() {
        BlobStore x = Stores.withEmptyVersions(32);
        for (int bucket : new int[] {-1, 4, Stores.LEAST, Stores.MOST}) {
            for (int key = 0; key <= 7; key++) {
                CHECK.due("latest(" + bucket + ", " + key + ")", x.latest(bucket, key), 0);
            }
        }
    }

    private static void noSuchKey() {
        BlobStore x = Stores.withEmptyVersions(32);
        for (int key : new int[] {-1, 8, Stores.LEAST, Stores.MOST}) {
            for (int bucket = 0; bucket <= 3; bucket++) {
                CHECK.due("latest(" + bucket + ", " + key + ")", x.latest(bucket, key), 0);
            }
        }
    }
}
