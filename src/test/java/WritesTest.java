import java.util.function.Consumer;

/** 'Terms': which writes there are, what a cut does to each, what DOWN is, and what does not count. */
public final class WritesTest {
    private static final Check CHECK = new Check("WritesTest");

    public static void main(String[] args) {
        CHECK.says("each is done wholly or not at all", WritesTest::whollyOrNotAtAll);
        CHECK.says("a chunk that comes to a slot", WritesTest::chunkIsOneWrite);
        CHECK.says("a part that comes to its session", WritesTest::partIsOneWrite);
        CHECK.says("(in place of one with its number)", WritesTest::partInPlaceIsOneWrite);
        CHECK.says("a session that opens, or ends", WritesTest::sessionThatOpensIsOneWrite);
        CHECK.says("a session that opens, or ends", WritesTest::sessionThatEndsIsOneWrite);
        CHECK.says("a version that comes while its session ends", WritesTest::versionAndEndAreOneWrite);
        CHECK.says("a version that is deleted", WritesTest::deletedVersionIsOneWrite);
        CHECK.says("a slot that becomes free", WritesTest::eachFreedSlotIsOneWrite);
        CHECK.says("the write behind n more ones is not done: the power is gone,"
                + " the call throws UnsupportedOperationException", WritesTest::cutBehindSoManyWrites);
        CHECK.says("the write behind n more ones is not done", WritesTest::cutBetweenTheWritesOfOneCall);
        CHECK.says("until recover() the store is DOWN", WritesTest::downUntilRecover);
        CHECK.says("all calls that write throw IllegalStateException, doing nothing", WritesTest::downRefusesEachCall);
        CHECK.says("all calls that write throw IllegalStateException, doing nothing",
                WritesTest::downRefusesCallsWithNothingToWrite);
        CHECK.says("A write that a call does not reach for another reason does not count.",
                WritesTest::refusedCallsDoNotCount);
        CHECK.says("A write that a call does not reach for another reason does not count.",
                WritesTest::chunksThatAreThereDoNotCount);
        CHECK.says("A write that a call does not reach for another reason does not count.",
                WritesTest::callsThatFindNothingToDoDoNotCount);
        CHECK.says("A write that a call does not reach for another reason does not count.",
                WritesTest::callsThatOnlyTellDoNotCount);
        CHECK.end();
    }

    /** One call on a store that has work for every call. */
    private static void writes(String call, int want, Consumer<BlobStore> run) {
        BlobStore x = Stores.busy();
        int before = x.state(4);
        run.accept(x);
        CHECK.due("the writes of " + call, x.state(4) - before, want);
    }

    private static void whollyOrNotAtAll() {
        Twins.cut(CHECK, "begin(3, 7)", Stores::busy, x -> x.begin(3, 7));
        Twins.cut(CHECK, "part(0, 1, 24, 7, 8, 9)", Stores::busy, x -> x.part(0, 1, 24, 7, 8, 9));
        Twins.cut(CHECK, "part(0, 1, 24, 7, 6, 5)", Stores::busy, x -> x.part(0, 1, 24, 7, 6, 5));
        Twins.cut(CHECK, "part(0, 1, 0, 0, 0, 0)", Stores::busy, x -> x.part(0, 1, 0, 0, 0, 0));
        Twins.cut(CHECK, "complete(0)", Stores::busy, x -> x.complete(0));
        Twins.cut(CHECK, "abort(0)", Stores::busy, x -> x.abort(0));
        Twins.cut(CHECK, "delete(1)", Stores::busy, x -> x.delete(1));
        Twins.cut(CHECK, "collect()", Stores::busy, x -> x.collect());
    }

    private static void chunkIsOneWrite() {
        writes("a part with one new chunk", 2, x -> x.part(0, 3, 8, 11, 0, 0));
        writes("a part with two new chunks", 3, x -> x.part(0, 3, 16, 11, 12, 0));
        writes("a part with three new chunks", 4, x -> x.part(0, 3, 24, 11, 12, 13));
    }

    private static void partIsOneWrite() {
        writes("a part whose chunks are there", 1, x -> x.part(0, 3, 24, 5, 6, 7));
        writes("a part of no bytes", 1, x -> x.part(0, 3, 0, 0, 0, 0));
    }

    private static void partInPlaceIsOneWrite() {
        writes("a part in place of one", 1, x -> x.part(0, 1, 8, 5, 0, 0));
        writes("a part in place of the same one", 1, x -> x.part(0, 1, 8, 6, 0, 0));
        writes("a part of no bytes in place of one", 1, x -> x.part(0, 1, 0, 0, 0, 0));
    }

    private static void sessionThatOpensIsOneWrite() {
        writes("begin(0, 0)", 1, x -> x.begin(0, 0));
    }

    private static void sessionThatEndsIsOneWrite() {
        writes("abort(0)", 1, x -> x.abort(0));
    }

    private static void versionAndEndAreOneWrite() {
        writes("complete(0)", 1, x -> x.complete(0));
        BlobStore x = Stores.busy();
        x.cutAfter(1);
        CHECK.due("complete(0), cut behind one write", x.complete(0), 2);
        CHECK.due("state(1)", x.state(1), 0);
        CHECK.due("state(2)", x.state(2), 2);
    }

    private static void deletedVersionIsOneWrite() {
        writes("delete(1)", 1, x -> x.delete(1));
    }

    private static void eachFreedSlotIsOneWrite() {
        writes("collect() of one slot", 1, x -> x.collect());
        BlobStore x = Stores.withChunks(48);
        int before = x.state(4);
        x.collect();
        CHECK.due("the writes of collect() of 48 slots", x.state(4) - before, 48);
    }

    private static void cutBehindSoManyWrites() {
        for (int n = 0; n < 7; n++) {
            BlobStore x = new BlobStore();
            x.cutAfter(n);
            CHECK.due("writes to the cut of cutAfter(" + n + ")", Twins.writesToTheCut(x), n);
            CHECK.due("state(5)", x.state(5), 1);
            CHECK.due("state(4)", x.state(4), n);
            CHECK.due("state(1)", x.state(1), n % 2);
        }
    }

    private static void cutBetweenTheWritesOfOneCall() {
        for (int n = 0; n < 4; n++) {
            BlobStore x = Stores.withSession();
            x.cutAfter(n);
            CHECK.dueThrow("part of four writes, cut behind " + n, Check.POWER, () -> x.part(0, 1, 24, 1, 2, 3));
            CHECK.due("state(4), cut behind " + n, x.state(4), 1 + n);
            CHECK.due("state(0), cut behind " + n, x.state(0), n);
        }
    }

    private static void downUntilRecover() {
        BlobStore x = Stores.down(Stores.busy());
        for (int times = 0; times < 3; times++) {
            CHECK.due("state(5)", x.state(5), 1);
            CHECK.dueThrow("begin(0, 0)", Check.STATE, () -> x.begin(0, 0));
        }
        x.cutAfter(7);
        CHECK.dueThrow("begin(0, 0), another cut told", Check.STATE, () -> x.begin(0, 0));
        x.recover();
        CHECK.due("state(5), recovered", x.state(5), 0);
        CHECK.due("begin(0, 0), recovered", x.begin(0, 0), 1);
    }

    private static void refusedWhileDown(String call, Consumer<BlobStore> run) {
        Twins.refused(CHECK, call + ", down", Check.STATE, () -> Stores.down(Stores.busy()), run);
    }

    private static void downRefusesEachCall() {
        refusedWhileDown("begin(0, 0)", x -> x.begin(0, 0));
        refusedWhileDown("part(0, 1, 24, 7, 8, 9)", x -> x.part(0, 1, 24, 7, 8, 9));
        refusedWhileDown("part(0, 1, 0, 0, 0, 0)", x -> x.part(0, 1, 0, 0, 0, 0));
        refusedWhileDown("complete(0)", x -> x.complete(0));
        refusedWhileDown("abort(0)", x -> x.abort(0));
        refusedWhileDown("delete(1)", x -> x.delete(1));
        refusedWhileDown("collect()", x -> x.collect());
    }

    private static void downRefusesCallsWithNothingToWrite() {
        refusedWhileDown("delete(9)", x -> x.delete(9));
        Twins.refused(CHECK, "collect() of nothing, down", Check.STATE, () -> Stores.down(new BlobStore()),
                x -> x.collect());
    }

    /** The cut told behind one write is still behind one write. */
    private static void doesNotCount(String call, BlobStore x, Class<?> want, Consumer<BlobStore> run) {
        int before = x.state(4);
        x.cutAfter(1);
        if (want == null) {
            run.accept(x);
        } else {
            CHECK.dueThrow(call, want, () -> run.accept(x));
        }
        CHECK.due("state(4) behind " + call, x.state(4), before);
        CHECK.due("state(5) behind " + call, x.state(5), 0);
        CHECK.due("writes to the cut behind " + call, Twins.writesToTheCut(x), 1);
    }

    private static void refusedCallsDoNotCount() {
        doesNotCount("begin(0, 0), all open", Stores.withSessions(5), Check.STATE, x -> x.begin(0, 0));
        doesNotCount("begin(4, 0)", Stores.busy(), Check.ARGUMENT, x -> x.begin(4, 0));
        doesNotCount("part(1, ..)", Stores.busy(), Check.ARGUMENT, x -> x.part(1, 1, 8, 9, 0, 0));
        doesNotCount("part(0, 7, ..)", Stores.busy(), Check.ARGUMENT, x -> x.part(0, 7, 8, 9, 0, 0));
        doesNotCount("part(0, 1, 25, ..)", Stores.busy(), Check.ARGUMENT, x -> x.part(0, 1, 25, 9, 0, 0));
        doesNotCount("part, one free", Stores.withChunks(47), Check.INDEX, x -> x.part(0, 1, 16, 1, 2, 0));
        doesNotCount("complete(1)", Stores.busy(), Check.ARGUMENT, x -> x.complete(1));
        BlobStore full = Stores.withEmptyVersions(40);
        full.begin(0, 0);
        doesNotCount("complete(0) behind 40 versions", full, Check.STATE, x -> x.complete(0));
        doesNotCount("abort(1)", Stores.busy(), Check.ARGUMENT, x -> x.abort(1));
        doesNotCount("cutAfter(1001)", Stores.busy(), Check.ARGUMENT, x -> x.cutAfter(1001));
    }

    private static void chunksThatAreThereDoNotCount() {
        BlobStore x = Stores.busy();
        x.cutAfter(1);
        CHECK.due("a part whose chunks are there, cut behind 1", x.part(0, 3, 24, 5, 6, 7), 0);
        BlobStore y = Stores.busy();
        y.cutAfter(2);
        CHECK.due("a part of one new chunk thrice, cut behind 2", y.part(0, 3, 24, 8, 8, 8), 1);
        CHECK.dueThrow("the next write", Check.POWER, () -> y.begin(0, 0));
    }

    private static void callsThatFindNothingToDoDoNotCount() {
        doesNotCount("delete(2)", Stores.busy(), null, x -> x.delete(2));
        doesNotCount("collect() of nothing", Stores.withVersion(5), null, x -> x.collect());
        doesNotCount("recover(), on", Stores.busy(), null, x -> x.recover());
    }

    private static void callsThatOnlyTellDoNotCount() {
        doesNotCount("all that tells", Stores.busy(), null, Twins::allThatIsTold);
        doesNotCount("slotOf(8, 9)", Stores.busy(), null, x -> x.slotOf(8, 9));
    }
}
