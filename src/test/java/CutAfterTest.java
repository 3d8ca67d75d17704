/** Promise 8: cutAfter. */
public final class CutAfterTest {
    private static final Check CHECK = new Check("CutAfterTest");

    public static void main(String[] args) {
        CHECK.says("The power goes behind n more writes", CutAfterTest::behindSoManyWrites);
        CHECK.says("The power goes behind n more writes", CutAfterTest::writesBeforeItDoNotCount);
        CHECK.says("0: at the next one", CutAfterTest::zeroIsTheNextOne);
        CHECK.says("(0 to 1,000;", CutAfterTest::aThousand);
        CHECK.says("in place of what was told", CutAfterTest::laterInPlaceOfSooner);
        CHECK.says("in place of what was told", CutAfterTest::soonerInPlaceOfLater);
        CHECK.says("recover() takes it away", CutAfterTest::recoverTakesItAway);
        CHECK.says("recover() takes it away", CutAfterTest::recoverTakesAwayWhatWasToldWhileDown);
        CHECK.says("IllegalArgumentException: n is not so.", CutAfterTest::notSo);
        CHECK.says("IllegalArgumentException: n is not so.", CutAfterTest::notSoWhileDown);
        CHECK.end();
    }

    private static void behindSoManyWrites() {
        for (int n = 0; n < 8; n++) {
            BlobStore x = Stores.busy();
            int before = x.state(4);
            x.cutAfter(n);
            CHECK.due("state(5), cutAfter(" + n + ") alone", x.state(5), 0);
            CHECK.due("writes to the cut of cutAfter(" + n + ")", Twins.writesToTheCut(x), n);
            CHECK.due("state(4)", x.state(4), before + n);
        }
    }

    private static void writesBeforeItDoNotCount() {
        BlobStore x = Stores.withSessions(4);
        x.cutAfter(1);
        CHECK.due("begin(0, 0)", x.begin(0, 0), 4);
        CHECK.dueThrow("abort(4)", Check.POWER, () -> x.abort(4));
    }

    private static void zeroIsTheNextOne() {
        BlobStore x = Stores.withSession();
        x.cutAfter(0);
        CHECK.dueThrow("abort(0)", Check.POWER, () -> x.abort(0));
        CHECK.due("state(1)", x.state(1), 1);
    }

    private static void aThousand() {
        BlobStore x = Stores.withSession();
        x.cutAfter(1000);
        // Each round makes 113 writes in 18 calls, so that an object's 512 calls reach the cut.
        for (int round = 0; round < 8; round++) {
            for (int a = 0; a < 48; a += 3) {
                x.part(0, 1, 24, a, a + 1, a + 2);
            }
            x.part(0, 1, 0, 0, 0, 0);
            x.collect();
        }
        for (int left = 1000 - 8 * 113; left > 0; left--) {
            x.part(0, 1, 0, 0, 0, 0);
        }
        CHECK.due("state(4)", x.state(4), 1001);
        CHECK.due("state(5)", x.state(5), 0);
        CHECK.dueThrow("the write behind a thousand", Check.POWER, () -> x.part(0, 1, 0, 0, 0, 0));
    }

    private static void laterInPlaceOfSooner() {
        BlobStore x = new BlobStore();
        x.cutAfter(0);
        x.cutAfter(5);
        CHECK.due("writes to the cut", Twins.writesToTheCut(x), 5);
    }

    private static void soonerInPlaceOfLater() {
        BlobStore x = new BlobStore();
        x.cutAfter(1000);
        x.begin(0, 0);
        x.cutAfter(2);
        CHECK.due("writes to the cut", Twins.writesToTheCut(x), 2);
        BlobStore y = new BlobStore();
        y.cutAfter(5);
        y.cutAfter(0);
        CHECK.dueThrow("the next write", Check.POWER, () -> y.begin(0, 0));
    }

    private static void recoverTakesItAway() {
        BlobStore x = Stores.cut(new BlobStore());
        CHECK.dueThrow("begin(0, 0)", Check.POWER, () -> x.begin(0, 0));
        CHECK.due("recover()", x.recover(), true);
        CHECK.due("writes to a cut", Twins.writesToTheCut(x), -1);
    }

    private static void recoverTakesAwayWhatWasToldWhileDown() {
        for (int n : new int[] {0, 1, 3}) {
            BlobStore x = Stores.down(new BlobStore());
            x.cutAfter(n);
            CHECK.due("recover()", x.recover(), true);
            CHECK.due("writes to the cut of cutAfter(" + n + "), told while down", Twins.writesToTheCut(x), -1);
        }
    }

    private static void notSo() {
        for (int n : new int[] {-1, 1001, Stores.LEAST, Stores.MOST}) {
            Twins.refused(CHECK, "cutAfter(" + n + ")", Check.ARGUMENT, Stores::busy, x -> x.cutAfter(n));
            Twins.refused(CHECK, "cutAfter(" + n + "), a cut told", Check.ARGUMENT, () -> {
                BlobStore x = Stores.busy();
                x.cutAfter(3);
                return x;
            }, x -> x.cutAfter(n));
        }
    }

    private static void notSoWhileDown() {
        for (int n : new int[] {-1, 1001}) {
            Twins.refused(CHECK, "cutAfter(" + n + "), down", Check.ARGUMENT, () -> Stores.down(Stores.busy()),
                    x -> x.cutAfter(n));
        }
    }
}
