/** Promise 9: recover. */
public final class RecoverTest {
    private static final Check CHECK = new Check("RecoverTest");

    public static void main(String[] args) {
        CHECK.says("The power is on again", RecoverTest::powerIsOnAgain);
        CHECK.says("The power is on again", RecoverTest::whatWasThereIsThere);
        CHECK.says("The power is on again", RecoverTest::asOftenAsItGoes);
        CHECK.says("(no cut is told): true", RecoverTest::noCutIsTold);
        CHECK.says("false, and nothing changes, when it was not gone", RecoverTest::notGone);
        CHECK.says("false, and nothing changes, when it was not gone", RecoverTest::notGoneThoughACutIsTold);
        CHECK.says("false, and nothing changes, when it was not gone", RecoverTest::notGoneAnyMore);
        CHECK.end();
    }

    private static void powerIsOnAgain() {
        BlobStore x = Stores.down(Stores.busy());
        CHECK.due("recover()", x.recover(), true);
        CHECK.due("state(5)", x.state(5), 0);
        CHECK.due("begin(0, 0)", x.begin(0, 0), 1);
        CHECK.due("part(0, 1, 8, 9, 0, 0)", x.part(0, 1, 8, 9, 0, 0), 1);
        CHECK.due("complete(0)", x.complete(0), 2);
        CHECK.due("delete(1)", x.delete(1), true);
        CHECK.due("collect()", x.collect(), 3);
        x.abort(1);
        CHECK.due("state(1)", x.state(1), 0);
    }

    private static void whatWasThereIsThere() {
        Twins.unchanged(CHECK, "a power that goes and comes", Stores::busy, x -> {
            Stores.down(x);
            CHECK.due("recover()", x.recover(), true);
        });
    }

    private static void asOftenAsItGoes() {
        BlobStore x = new BlobStore();
        for (int times = 0; times < 50; times++) {
            Stores.down(x);
            CHECK.due("recover()", x.recover(), true);
        }
        CHECK.due("state(4)", x.state(4), 0);
    }

    private static void noCutIsTold() {
        BlobStore x = Stores.down(new BlobStore());
        CHECK.due("recover()", x.recover(), true);
        for (int i = 0; i < 100; i++) {
            CHECK.due("begin(0, 0)", x.begin(0, 0), 0);
            x.abort(0);
        }
        CHECK.due("state(5)", x.state(5), 0);
    }

    private static void notGone() {
        Twins.unchanged(CHECK, "recover(), on", Stores::busy, x -> CHECK.due("recover(), on", x.recover(), false));
        CHECK.due("recover(), new", new BlobStore().recover(), false);
    }

    private static void notGoneThoughACutIsTold() {
        for (int n = 0; n < 3; n++) {
            BlobStore x = Stores.busy();
            x.cutAfter(n);
            CHECK.due("recover(), a cut told behind " + n, x.recover(), false);
            int writes = 0;
            while (writes < n) {
                x.begin(0, 0);
                writes++;
            }
            CHECK.dueThrow("the write behind " + n, Check.POWER, () -> x.begin(0, 0));
        }
    }

    private static void notGoneAnyMore() {
        BlobStore x = Stores.down(Stores.busy());
        CHECK.due("recover()", x.recover(), true);
        CHECK.due("recover() again", x.recover(), false);
        x.cutAfter(0);
        CHECK.due("recover(), another cut told", x.recover(), false);
        CHECK.dueThrow("the next write", Check.POWER, () -> x.begin(0, 0));
    }
}
