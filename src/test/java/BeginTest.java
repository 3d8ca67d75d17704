/** Promise 2: begin. */
public final class BeginTest {
    private static final Check CHECK = new Check("BeginTest");

    public static void main(String[] args) {
        CHECK.says("The session with the least number that is not open is opened: its number.",
                BeginTest::fromZeroToFour);
        CHECK.says("The session with the least number that is not open is opened: its number.",
                BeginTest::leastOfSeveral);
        CHECK.says("The session with the least number that is not open is opened: its number.",
                BeginTest::opensWithoutParts);
        CHECK.says("an open one has a bucket (0 to 3), a key (0 to 7)", BeginTest::allBucketsAndKeys);
        CHECK.says("IllegalStateException: DOWN", BeginTest::down);
        CHECK.says("IllegalStateException: DOWN, or all are open.", BeginTest::allAreOpen);
        CHECK.says("IllegalArgumentException: no such bucket or key.", BeginTest::noSuchBucket);
        CHECK.says("IllegalArgumentException: no such bucket or key.", BeginTest::noSuchKey);
        CHECK.says("UnsupportedOperationException: the power goes.", BeginTest::powerGoes);
        CHECK.says("The first of these, doing nothing", BeginTest::downComesFirst);
        CHECK.says("The first of these, doing nothing", BeginTest::allOpenComesBeforeBucketsAndPower);
        CHECK.says("The first of these, doing nothing", BeginTest::bucketComesBeforePower);
        CHECK.end();
    }

    private static void fromZeroToFour() {
        BlobStore x = new BlobStore();
        for (int i = 0; i < 5; i++) {
            CHECK.due("begin(0, 0)", x.begin(0, 0), i);
            CHECK.due("state(1)", x.state(1), i + 1);
        }
    }

    private static void leastOfSeveral() {
        BlobStore x = Stores.withSessions(5);
        x.abort(4);
        x.abort(3);
        x.complete(1);
        CHECK.due("begin(0, 0), 1, 3 and 4 not open", x.begin(0, 0), 1);
        x.abort(0);
        CHECK.due("begin(0, 0), 0, 3 and 4 not open", x.begin(0, 0), 0);
        CHECK.due("begin(0, 0), 3 and 4 not open", x.begin(0, 0), 3);
        CHECK.due("begin(0, 0), 4 not open", x.begin(0, 0), 4);
    }

    private static void opensWithoutParts() {
        BlobStore x = Stores.withSession();
        for (int number = 1; number <= 6; number++) {
            x.part(0, number, 8, 7, 0, 0);
        }
        x.abort(0);
        x.begin(0, 0);
        CHECK.due("needed(0), opened again behind abort", x.needed(0), 0);
        x.part(0, 6, 8, 7, 0, 0);
        x.complete(0);
        CHECK.due("size(1)", x.size(1), 8);
        x.begin(0, 0);
        CHECK.due("needed(0), opened again behind complete", x.needed(0), 1);
        x.complete(0);
        CHECK.due("size(2)", x.size(2), 0);
    }

    private static void allBucketsAndKeys() {
        for (int bucket = 0; bucket <= 3; bucket++) {
            for (int key = 0; key <= 7; key++) {
                BlobStore x = new BlobStore();
                CHECK.due("begin(" + bucket + ", " + key + ")", x.begin(bucket, key), 0);
                x.complete(0);
                CHECK.due("its bucket", x.state(6), bucket);
                CHECK.due("its key", x.state(7), key);
            }
        }
    }

    private static void down() {
        Twins.refused(CHECK, "begin(0, 0), down", Check.STATE, () -> Stores.down(Stores.busy()), x -> x.begin(0, 0));
    }

    private static void allAreOpen() {
        Twins.refused(CHECK, "begin(0, 0), all open", Check.STATE, () -> Stores.withSessions(5), x -> x.begin(0, 0));
    }

    private static void noSuchBucket() {
        for (int bucket : new int[] {-1, 4, Stores.LEAST, Stores.MOST}) {
            Twins.refused(CHECK, "begin(" + bucket + ", 0)", Check.ARGUMENT, Stores::busy, x -> x.begin(bucket, 0));
        }
    }

    private static void noSuchKey() {
        for (int key : new int[] {-1, 8, Stores.LEAST, Stores.MOST}) {
            Twins.refused(CHECK, "begin(0, " + key + ")", Check.ARGUMENT, Stores::busy, x -> x.begin(0, key));
        }
    }

    private static void powerGoes() {
        Twins.cut(CHECK, "begin(3, 7)", Stores::busy, x -> x.begin(3, 7));
    }

    private static void downComesFirst() {
        Twins.refused(CHECK, "begin(4, 8), down", Check.STATE, () -> Stores.down(Stores.withSession()),
                x -> x.begin(4, 8));
    }

    private static void allOpenComesBeforeBucketsAndPower() {
        Twins.refused(CHECK, "begin(4, 8), all open", Check.STATE, () -> Stores.withSessions(5), x -> x.begin(4, 8));
        Twins.refused(CHECK, "begin(0, 0), all open, cut", Check.STATE, () -> Stores.cut(Stores.withSessions(5)),
                x -> x.begin(0, 0));
    }

    private static void bucketComesBeforePower() {
        Twins.refused(CHECK, "begin(4, 0), cut", Check.ARGUMENT, () -> Stores.cut(new BlobStore()), x -> x.begin(4, 0));
        Twins.refused(CHECK, "begin(0, 8), cut", Check.ARGUMENT, () -> Stores.cut(new BlobStore()), x -> x.begin(0, 8));
    }
}
