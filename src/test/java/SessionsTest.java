/** Promises 2 (begin) and 5 (abort). */
public final class SessionsTest {
    private static final Check CHECK = new Check("SessionsTest");

    public static void main(String[] args) {
        beginOpensTheLeastNumber();
        beginTakesAllBucketsAndKeys();
        beginRefusesOthers();
        beginAsksForTheStateFirst();
        beginAndThePower();
        beginStartsWithoutParts();
        abortEndsTheSession();
        abortRefusesOthers();
        abortAndThePower();
        CHECK.end();
    }

    private static void beginOpensTheLeastNumber() {
        BlobStore x = new BlobStore();
        for (int i = 0; i < 5; i++) {
            CHECK.due("begin", x.begin(0, i), i);
            CHECK.due("open sessions", x.state(1), i + 1);
        }
        x.abort(3);
        x.complete(1);
        CHECK.due("begin behind abort(3) and complete(1)", x.begin(3, 7), 1);
        CHECK.due("begin once more", x.begin(3, 7), 3);
        CHECK.dueThrow("a sixth begin", Check.STATE, () -> x.begin(0, 0));
        CHECK.due("open sessions", x.state(1), 5);
        CHECK.due("writes: 5 + 2 + 2", x.state(4), 9);
    }

    private static void beginTakesAllBucketsAndKeys() {
        for (int bucket = 0; bucket < 4; bucket++) {
            for (int key = 0; key < 8; key++) {
                BlobStore x = new BlobStore();
                x.complete(x.begin(bucket, key));
                CHECK.due("the version's bucket", x.state(6), bucket);
                CHECK.due("the version's key", x.state(7), key);
            }
        }
    }

    private static void beginRefusesOthers() {
        int[][] others = {{-1, 0}, {4, 0}, {0, -1}, {0, 8}, {Integer.MIN_VALUE, 0}, {0, Integer.MAX_VALUE}};
        BlobStore x = new BlobStore();
        x.cutAfter(0);
        for (int[] other : others) {
            CHECK.dueThrow("begin(" + other[0] + ", " + other[1] + ")", Check.ARGUMENT,
                    () -> x.begin(other[0], other[1]));
        }
        CHECK.due("open sessions", x.state(1), 0);
        CHECK.due("writes", x.state(4), 0);
        CHECK.due("down", x.state(5), 0);
    }

    private static void beginAsksForTheStateFirst() {
        BlobStore x = new BlobStore();
        for (int i = 0; i < 5; i++) {
            x.begin(0, 0);
        }
        CHECK.dueThrow("begin(9, 9), all open", Check.STATE, () -> x.begin(9, 9));
        x.cutAfter(0);
        CHECK.dueThrow("begin(0, 0), all open, power about to go", Check.STATE, () -> x.begin(0, 0));
        CHECK.due("down", x.state(5), 0);
        BlobStore y = Stores.down(new BlobStore());
        CHECK.dueThrow("begin(9, 9), down", Check.STATE, () -> y.begin(9, 9));
    }

    private static void beginAndThePower() {
        BlobStore x = new BlobStore();
        x.cutAfter(0);
        CHECK.dueThrow("begin, cut", Check.POWER, () -> x.begin(1, 1));
        CHECK.due("open sessions", x.state(1), 0);
        CHECK.due("writes", x.state(4), 0);
        CHECK.dueThrow("begin, down", Check.STATE, () -> x.begin(1, 1));
        x.recover();
        CHECK.due("begin, recovered", x.begin(1, 1), 0);
    }

    private static void beginStartsWithoutParts() {
        BlobStore x = Stores.withSession();
        x.part(0, 2, 8, 7, 0, 0);
        x.abort(0);
        x.begin(0, 0);
        CHECK.due("needed(0), opened anew", x.needed(0), 0);
        x.complete(0);
        CHECK.due("size(1), opened anew", x.size(1), 0);
        x.begin(0, 0);
        x.part(0, 2, 8, 7, 0, 0);
        x.complete(0);
        x.begin(0, 0);
        x.complete(0);
        CHECK.due("size(3), opened anew behind complete", x.size(3), 0);
    }

    private static void abortEndsTheSession() {
        BlobStore x = Stores.withSession();
        x.begin(1, 1);
        x.part(0, 1, 16, 5, 6, 0);
        x.part(1, 1, 8, 5, 0, 0);
        x.abort(0);
        CHECK.due("open sessions", x.state(1), 1);
        CHECK.due("needed(0)", x.needed(0), 1);
        CHECK.due("needed(1)", x.needed(1), 0);
        CHECK.due("chunks stay", x.state(0), 2);
        CHECK.due("versions ever", x.state(3), 0);
        CHECK.due("writes: 2 + 3 + 1 + 1", x.state(4), 7);
        CHECK.dueThrow("abort again", Check.ARGUMENT, () -> x.abort(0));
        CHECK.dueThrow("part of the ended one", Check.ARGUMENT, () -> x.part(0, 1, 1, 1, 1, 1));
        CHECK.dueThrow("complete of the ended one", Check.ARGUMENT, () -> x.complete(0));
    }

    private static void abortRefusesOthers() {
        BlobStore x = Stores.withSession();
        x.cutAfter(0);
        int[] others = {-1, 1, 4, 5, Integer.MIN_VALUE, Integer.MAX_VALUE};
        for (int other : others) {
            CHECK.dueThrow("abort(" + other + ")", Check.ARGUMENT, () -> x.abort(other));
        }
        CHECK.due("down", x.state(5), 0);
        CHECK.due("writes", x.state(4), 1);
        Stores.down(x);
        CHECK.dueThrow("abort(5), down", Check.STATE, () -> x.abort(5));
        CHECK.dueThrow("abort(0), down", Check.STATE, () -> x.abort(0));
    }

    private static void abortAndThePower() {
        BlobStore x = Stores.withSession();
        x.part(0, 1, 8, 5, 0, 0);
        x.cutAfter(0);
        CHECK.dueThrow("abort, cut", Check.POWER, () -> x.abort(0));
        CHECK.due("open sessions", x.state(1), 1);
        CHECK.due("needed(0)", x.needed(0), 1);
        CHECK.due("writes", x.state(4), 3);
        x.recover();
        x.abort(0);
        CHECK.due("open sessions, recovered", x.state(1), 0);
    }
}
