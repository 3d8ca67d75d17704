/** Promise 16: state. */
public final class StateTest {
    private static final Check CHECK = new Check("StateTest");

    public static void main(String[] args) {
        CHECK.says("0 slots with chunks", StateTest::slotsWithChunks);
        CHECK.says("1 open sessions", StateTest::openSessions);
        CHECK.says("2 versions that live", StateTest::versionsThatLive);
        CHECK.says("3 versions ever", StateTest::versionsEver);
        CHECK.says("4 writes ever", StateTest::writesEver);
        CHECK.says("4 writes ever", StateTest::writeThatIsNotDoneIsNone);
        CHECK.says("5 1 if DOWN", StateTest::oneIfDown);
        CHECK.says("6 the bucket, 7 the key of the version with the greatest number ever given",
                StateTest::bucketAndKeyOfTheLast);
        CHECK.says("living or not", StateTest::livingOrNot);
        CHECK.says("(-1: none)", StateTest::none);
        CHECK.says("-1 for others", StateTest::others);
        CHECK.end();
    }

    private static void slotsWithChunks() {
        BlobStore x = Stores.withSession();
        CHECK.due("state(0), none", x.state(0), 0);
        x.part(0, 1, 24, 1, 2, 1);
        CHECK.due("state(0), two", x.state(0), 2);
        x.part(0, 1, 0, 0, 0, 0);
        CHECK.due("state(0), two that nobody needs", x.state(0), 2);
        x.collect();
        CHECK.due("state(0), collected", x.state(0), 0);
        CHECK.due("state(0), all", Stores.withChunks(48).state(0), 48);
        CHECK.due("state(0), all but two", Stores.withGaps(48, 0, 47).state(0), 46);
    }

    private static void openSessions() {
        for (int count = 0; count <= 5; count++) {
            CHECK.due("state(1) of " + count, Stores.withSessions(count).state(1), count);
        }
        BlobStore x = Stores.withSessions(5);
        x.abort(4);
        CHECK.due("state(1), one aborted", x.state(1), 4);
        x.complete(0);
        CHECK.due("state(1), one completed", x.state(1), 3);
    }

    private static void versionsThatLive() {
        BlobStore x = Stores.withEmptyVersions(40);
        for (int deleted = 0; deleted < 40; deleted++) {
            CHECK.due("state(2)", x.state(2), 40 - deleted);
            x.delete(40 - deleted);
        }
        CHECK.due("state(2), all deleted", x.state(2), 0);
    }

    private static void versionsEver() {
        for (int count = 0; count <= 40; count++) {
            CHECK.due("state(3) of " + count, Stores.withEmptyVersions(count).state(3), count);
        }
        BlobStore x = Stores.withEmptyVersions(3);
        x.delete(3);
        x.delete(1);
        CHECK.due("state(3), two deleted", x.state(3), 3);
    }

    private static void writesEver() {
        BlobStore x = new BlobStore();
        CHECK.due("state(4), new", x.state(4), 0);
        x.begin(0, 0);
        CHECK.due("state(4), a session opened", x.state(4), 1);
        x.part(0, 1, 24, 1, 2, 3);
        CHECK.due("state(4), three chunks and a part came", x.state(4), 5);
        x.complete(0);
        CHECK.due("state(4), a version came while its session ended", x.state(4), 6);
        x.delete(1);
        CHECK.due("state(4), a version deleted", x.state(4), 7);
        x.collect();
        CHECK.due("state(4), three slots freed", x.state(4), 10);
        x.begin(0, 0);
        x.abort(0);
        CHECK.due("state(4), a session opened and ended", x.state(4), 12);
    }

    private static void writeThatIsNotDoneIsNone() {
        BlobStore x = Stores.busy();
        int before = x.state(4);
        Stores.down(x);
        CHECK.due("state(4), down", x.state(4), before);
        x.recover();
        CHECK.due("state(4), recovered", x.state(4), before);
        x.begin(0, 0);
        CHECK.due("state(4), the next write", x.state(4), before + 1);
    }

    private static void oneIfDown() {
        BlobStore x = new BlobStore();
        CHECK.due("state(5), new", x.state(5), 0);
        x.cutAfter(0);
        CHECK.due("state(5), a cut told", x.state(5), 0);
        CHECK.dueThrow("begin(0, 0), cut", Check.POWER, () -> x.begin(0, 0));
        CHECK.due("state(5), down", x.state(5), 1);
        CHECK.dueThrow("begin(0, 0), down", Check.STATE, () -> x.begin(0, 0));
        x.cutAfter(7);
        CHECK.due("state(5), still down", x.state(5), 1);
        x.recover();
        CHECK.due("state(5), recovered", x.state(5), 0);
    }

    private static void last(String when, BlobStore x, int bucket, int key) {
        CHECK.due("state(6), " + when, x.state(6), bucket);
        CHECK.due("state(7), " + when, x.state(7), key);
    }

    private static void bucketAndKeyOfTheLast() {
        BlobStore x = new BlobStore();
        Stores.version(x, 3, 7, 1);
        last("one version", x, 3, 7);
        Stores.version(x, 0, 0, 1);
        last("two versions", x, 0, 0);
        x.begin(2, 6);
        last("a session open", x, 0, 0);
        x.abort(0);
        last("a session aborted", x, 0, 0);
        last("40 versions", Stores.withEmptyVersions(40), 0, 7);
    }

    private static void livingOrNot() {
        BlobStore x = new BlobStore();
        Stores.version(x, 3, 7, 1);
        Stores.version(x, 1, 5, 1);
        x.delete(2);
        last("the last one deleted", x, 1, 5);
        x.delete(1);
        x.collect();
        last("all deleted and collected", x, 1, 5);
    }

    private static void none() {
        BlobStore x = new BlobStore();
        last("new", x, -1, -1);
        x.begin(2, 3);
        last("a session open", x, -1, -1);
        x.cutAfter(0);
        CHECK.dueThrow("complete(0), cut", Check.POWER, () -> x.complete(0));
        last("a version that did not come", x, -1, -1);
    }

    private static void others() {
        BlobStore x = Stores.busy();
        for (int what : new int[] {8, 9, -1, Stores.LEAST, Stores.MOST}) {
            CHECK.due("state(" + what + ")", x.state(what), -1);
        }
    }
}
