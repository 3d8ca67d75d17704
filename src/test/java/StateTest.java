/** Promises 1 (a new object) and 16 (state). */
public final class StateTest {
    private static final Check CHECK = new Check("StateTest");

    public static void main(String[] args) {
        newObjectHasNothing();
        newObjectHasItsPower();
        objectsAreApart();
        stateTellsEachCount();
        stateTellsTheLastVersionGiven();
        CHECK.end();
    }

    private static void states(String when, BlobStore x, int... want) {
        for (int what = 0; what < want.length; what++) {
            CHECK.due("state(" + what + "), " + when, x.state(what), want[what]);
        }
    }

    private static void newObjectHasNothing() {
        BlobStore x = new BlobStore();
        states("new", x, 0, 0, 0, 0, 0, 0, -1, -1);
        for (int slot = 0; slot < 48; slot++) {
            int free = slot;
            CHECK.due("needed(" + slot + "), new", x.needed(slot), -1);
            CHECK.dueThrow("address(" + slot + ", 0), new", Check.ELEMENT, () -> x.address(free, 0));
        }
        for (int bucket = 0; bucket < 4; bucket++) {
            for (int key = 0; key < 8; key++) {
                CHECK.due("latest, new", x.latest(bucket, key), 0);
            }
        }
        for (int version = 0; version <= 41; version++) {
            CHECK.due("size(" + version + "), new", x.size(version), -1);
        }
        for (int session = 0; session < 5; session++) {
            int closed = session;
            CHECK.dueThrow("abort(" + session + "), new", Check.ARGUMENT, () -> x.abort(closed));
        }
        CHECK.due("slotOf(1, 0), new", x.slotOf(1, 0), -1);
        CHECK.due("collect, new", x.collect(), 0);
    }

    private static void newObjectHasItsPower() {
        BlobStore x = new BlobStore();
        CHECK.due("recover, new", x.recover(), false);
        for (int i = 0; i < 200; i++) {
            x.begin(0, 0);
            x.abort(0);
        }
        states("behind 400 writes", x, 0, 0, 0, 0, 400, 0, -1, -1);
    }

    private static void objectsAreApart() {
        BlobStore x = Stores.withVersion(5);
        BlobStore y = new BlobStore();
        y.cutAfter(0);
        states("the other one", y, 0, 0, 0, 0, 0, 0, -1, -1);
        CHECK.due("begin", x.begin(0, 0), 0);
        Stores.down(y);
        CHECK.due("down", x.state(5), 0);
    }

    private static void stateTellsEachCount() {
        BlobStore x = new BlobStore();
        x.begin(1, 2);
        x.begin(3, 4);
        x.begin(0, 7);
        x.part(0, 1, 24, 1, 2, 3);
        states("three sessions", x, 3, 3, 0, 0, 7, 0, -1, -1);
        x.complete(0);
        x.complete(1);
        states("two versions", x, 3, 1, 2, 2, 9, 0, 3, 4);
        x.delete(1);
        states("one deleted", x, 3, 1, 1, 2, 10, 0, 3, 4);
        x.collect();
        states("collected", x, 0, 1, 1, 2, 13, 0, 3, 4);
        x.cutAfter(0);
        states("a cut told", x, 0, 1, 1, 2, 13, 0, 3, 4);
        Stores.down(x);
        states("down", x, 0, 1, 1, 2, 13, 1, 3, 4);
        x.recover();
        states("recovered", x, 0, 1, 1, 2, 13, 0, 3, 4);
        int[] others = {8, -1, 9, Integer.MIN_VALUE, Integer.MAX_VALUE};
        for (int other : others) {
            CHECK.due("state(" + other + ")", x.state(other), -1);
        }
    }

    private static void stateTellsTheLastVersionGiven() {
        BlobStore x = new BlobStore();
        Stores.version(x, 2, 6, 1);
        Stores.version(x, 1, 5, 1);
        x.begin(3, 7);
        states("two versions, a session open", x, 1, 1, 2, 2, 8, 0, 1, 5);
        x.delete(2);
        states("the last one deleted", x, 1, 1, 1, 2, 9, 0, 1, 5);
        x.delete(1);
        states("both deleted", x, 1, 1, 0, 2, 10, 0, 1, 5);
        x.abort(0);
        states("the session aborted", x, 1, 0, 0, 2, 11, 0, 1, 5);
    }
}
