/** Promises 8 (cutAfter) and 9 (recover), and what DOWN is. */
public final class PowerTest {
    private static final Check CHECK = new Check("PowerTest");

    public static void main(String[] args) {
        cutComesBehindSoManyWrites();
        cutTakesZeroToThousand();
        cutComesInPlaceOfWhatWasTold();
        refusedCutChangesNothing();
        callsWithoutWritesDoNotCount();
        recoverTakesTheCutAway();
        recoverChangesNothingWhileOn();
        downKeepsAllAsItWas();
        CHECK.end();
    }

    private static int writesUntilTheCut(BlobStore x) {
        for (int writes = 0; writes < 2000; writes++) {
            try {
                if (writes % 2 == 0) {
                    x.begin(0, 0);
                } else {
                    x.abort(0);
                }
            } catch (UnsupportedOperationException e) {
                return writes;
            }
        }
        return -1;
    }

    private static void cutComesBehindSoManyWrites() {
        for (int n = 0; n < 12; n++) {
            BlobStore x = new BlobStore();
            x.cutAfter(n);
            CHECK.due("writes until cutAfter(" + n + ")", writesUntilTheCut(x), n);
            CHECK.due("down", x.state(5), 1);
            CHECK.due("writes ever", x.state(4), n);
        }
    }

    private static void cutTakesZeroToThousand() {
        BlobStore x = Stores.withSession();
        x.cutAfter(1000);
        // Each round makes 113 writes in 18 calls, so that an object's 512 calls reach the cut.
        for (int round = 0; round < 8; round++) {
            for (int a = 0; a < 48; a += 3) {
                x.part(0, 1, 24, a, a + 1, a + 2);
            }
            x.part(0, 1, 0, 0, 0, 0);
            x.collect();
        }
        for (int left = 1000 - 8 * 113; left > 0; left--) {
            x.part(0, 1, 0, 0, 0, 0);
        }
        CHECK.due("writes", x.state(4), 1001);
        CHECK.due("down", x.state(5), 0);
        CHECK.dueThrow("the write behind a thousand", Check.POWER, () -> x.part(0, 1, 0, 0, 0, 0));
        int[] others = {-1, 1001, Integer.MIN_VALUE, Integer.MAX_VALUE};
        for (int other : others) {
            CHECK.dueThrow("cutAfter(" + other + ")", Check.ARGUMENT, () -> x.cutAfter(other));
        }
    }

    private static void cutComesInPlaceOfWhatWasTold() {
        BlobStore x = new BlobStore();
        x.cutAfter(1);
        x.begin(0, 0);
        x.cutAfter(3);
        x.begin(0, 0);
        x.begin(0, 0);
        x.cutAfter(1);
        x.begin(0, 0);
        CHECK.dueThrow("begin", Check.POWER, () -> x.begin(0, 0));
        CHECK.due("writes", x.state(4), 4);
    }

    private static void refusedCutChangesNothing() {
        BlobStore x = new BlobStore();
        x.cutAfter(1);
        CHECK.dueThrow("cutAfter(-1)", Check.ARGUMENT, () -> x.cutAfter(-1));
        CHECK.dueThrow("cutAfter(1001)", Check.ARGUMENT, () -> x.cutAfter(1001));
        CHECK.due("writes until the cut", writesUntilTheCut(x), 1);
        CHECK.dueThrow("cutAfter(-1), down", Check.ARGUMENT, () -> x.cutAfter(-1));
        BlobStore y = new BlobStore();
        CHECK.dueThrow("cutAfter(-1)", Check.ARGUMENT, () -> y.cutAfter(-1));
        CHECK.due("no cut", y.begin(0, 0), 0);
    }

    private static void callsWithoutWritesDoNotCount() {
        BlobStore x = Stores.withVersion(5);
        x.cutAfter(1);
        x.delete(9);
        x.collect();
        x.latest(0, 0);
        x.recover();
        CHECK.dueThrow("begin(9, 9)", Check.ARGUMENT, () -> x.begin(9, 9));
        CHECK.dueThrow("abort(0)", Check.ARGUMENT, () -> x.abort(0));
        CHECK.dueThrow("complete(0)", Check.ARGUMENT, () -> x.complete(0));
        CHECK.due("begin", x.begin(0, 0), 0);
        CHECK.dueThrow("abort", Check.POWER, () -> x.abort(0));
    }

    private static void recoverTakesTheCutAway() {
        BlobStore x = Stores.down(new BlobStore());
        CHECK.due("recover", x.recover(), true);
        CHECK.due("down", x.state(5), 0);
        CHECK.due("no cut is told any more", x.begin(0, 0), 0);
        Stores.down(x);
        x.cutAfter(0);
        CHECK.due("recover, a cut told while down", x.recover(), true);
        CHECK.due("that cut is gone too", x.begin(0, 0), 1);
        Stores.down(x);
        x.cutAfter(7);
        CHECK.dueThrow("a cut told while down brings no power", Check.STATE, () -> x.begin(0, 0));
    }

    private static void recoverChangesNothingWhileOn() {
        BlobStore x = new BlobStore();
        CHECK.due("recover, new", x.recover(), false);
        x.cutAfter(1);
        CHECK.due("recover, a cut told", x.recover(), false);
        CHECK.due("the cut still comes", writesUntilTheCut(x), 1);
        CHECK.due("recover, down", x.recover(), true);
        CHECK.due("recover, on", x.recover(), false);
    }

    private static void downKeepsAllAsItWas() {
        BlobStore x = Stores.withVersion(5);
        x.begin(1, 2);
        x.part(0, 1, 8, 6, 0, 0);
        int writes = x.state(4);
        Stores.down(x);
        CHECK.dueThrow("begin", Check.STATE, () -> x.begin(0, 0));
        CHECK.dueThrow("part", Check.STATE, () -> x.part(0, 1, 8, 7, 0, 0));
        CHECK.dueThrow("complete", Check.STATE, () -> x.complete(0));
        CHECK.dueThrow("abort", Check.STATE, () -> x.abort(0));
        CHECK.dueThrow("delete", Check.STATE, () -> x.delete(1));
        CHECK.dueThrow("collect", Check.STATE, () -> x.collect());
        for (int times = 0; times < 2; times++) {
            CHECK.due("chunks", x.state(0), 2);
            CHECK.due("open sessions", x.state(1), 1);
            CHECK.due("versions that live", x.state(2), 1);
            CHECK.due("versions ever", x.state(3), 1);
            CHECK.due("writes", x.state(4), writes);
            CHECK.due("needed(1)", x.needed(1), 1);
            x.recover();
        }
        CHECK.due("complete, recovered", x.complete(0), 2);
        CHECK.due("latest(1, 2)", x.latest(1, 2), 2);
    }
}
